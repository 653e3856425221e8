/-! comet on fresh objects, printed by program -/
section P1C
theorem rm_toInt {x : Int32} (h : wi x 0 199999 = true) : (x - x / 100 * 100).toInt = x.toInt % 100 ∧ 0 ≤ x.toInt ∧ x.toInt ≤ 199999 := by
  have w := wi_to h
  have l : ((0) : Int32).toInt = 0 := by decide
  have r : ((199999) : Int32).toInt = 199999 := by decide
  have h1 : ((100 : Int32)).toInt = 100 := by decide
  refine ⟨?_, by omega, by omega⟩
  rw [Int32.toInt_sub, Int32.toInt_mul, Int32.toInt_div, h1, Int.tdiv_eq_ediv_of_nonneg (by omega)]
  unfold Int.bmod
  simp only []
  split <;> split <;> split <;> omega
theorem rm_big {x : Int32} (h : wi x 0 199999 = true) : (x - x / 100000 * 100000).toInt = x.toInt % 100000 := by
  have w := wi_to h
  have l : ((0) : Int32).toInt = 0 := by decide
  have r : ((199999) : Int32).toInt = 199999 := by decide
  have h1 : ((100000 : Int32)).toInt = 100000 := by decide
  rw [Int32.toInt_sub, Int32.toInt_mul, Int32.toInt_div, h1, Int.tdiv_eq_ediv_of_nonneg (by omega)]
  unfold Int.bmod
  simp only []
  split <;> split <;> split <;> omega
theorem rm_two {x : Int32} (h : wi x 0 199999 = true) : ((x - x / 100000 * 100000) - (x - x / 100000 * 100000) / 100 * 100) = (x - x / 100 * 100) := by
  obtain ⟨e1, e2, e3⟩ := rm_toInt h
  have e4 := rm_big h
  have l : ((0) : Int32).toInt = 0 := by decide
  have r : ((199999) : Int32).toInt = 199999 := by decide
  have w : wi (x - x / 100000 * 100000) 0 199999 = true := by
    unfold wi
    rw [decide_eq_true (Int32.le_iff_toInt_le.mpr (by omega)), decide_eq_true (Int32.le_iff_toInt_le.mpr (by omega))]
    rfl
  have e5 := (rm_toInt w).1
  exact Int32.toInt_inj.mp (by rw [e5, e1, e4]; omega)
theorem rm_99 {x : Int32} (h : wi x 0 199999 = true) : (x - x / 100 * 100).toInt ≤ 99 := by
  have e := (rm_toInt h).1
  omega
set_option maxRecDepth 20000 in
set_option maxHeartbeats 8000000 in
theorem p1_1 (x1 : Int32) (x2 : Int32) (x3 : Int32) (x4 : Int32) (J : aH → Nat → Nat → Prop) (hJ : ∀ h a b, J h a b) (kc ks : Nat) (hkc : 1000 ≤ kc) (hks : 100000 ≤ ks) : aPairI 0 69 125 193 [.inl x1, .inl x2, .inl x3, .inl x4] J hF kc ks := by
  refine ⟨4, 385, _, by omega, by omega, rfl, ?_⟩
  refine ac_ink [some (.inr (.inr (some 0))), some (.inl _), some (.inl _), some (.inl _), some (.inl _), none, none, none] mt_125 (Nat.le_of_ble_eq_true rfl) rfl ?_
  refine ar_ldI rfl rfl ?_
  refine ar_push rfl ?_
  refine ar_push rfl ?_
  refine ar_callv rfl rfl (Nat.le_of_ble_eq_true rfl) (Nat.le_of_ble_eq_true rfl) rfl (sp_within _ _ _ _ _) ?_
  refine ar_eqB rfl (fun c1 => ?_) (fun c1 => ?_)
  · refine ar_push rfl ?_
    refine ar_ret rfl rfl ?_
    refine ⟨_, 0, 0, _, rfl, Nat.zero_le _, Nat.zero_le _, rfl, ?_⟩
    refine rgen rFr_F (fun g hr => ?_)
    refine ac_ink [some (.inr (.inr (some 69))), some (.inl _), some (.inl _), some (.inl _), some (.inl _), none] mt_193 (Nat.le_of_ble_eq_true rfl) rfl ?_
    refine ar_ldI rfl rfl ?_
    refine ar_push rfl ?_
    refine ar_div rfl (by decide) ?_
    refine ar_svIk [some (.inr (.inr (some 69))), some (.inl _), some (.inl _), some (.inl _), some (.inl _), some (.inl _)] rfl rfl ?_
    refine ar_ldI rfl rfl ?_
    refine ar_inl (mc := 0) (ms := 0) rfl rfl (Nat.le_of_ble_eq_true rfl) (Nat.le_of_ble_eq_true rfl) (by omega) (by omega) ?_
    refine ac_ink [some (.inl _)] mt_189 (Nat.le_of_ble_eq_true rfl) rfl ?_
    refine ar_ldI rfl rfl ?_
    refine ar_push rfl ?_
    refine ar_push rfl ?_
    refine ar_callv rfl rfl (Nat.le_of_ble_eq_true rfl) (Nat.le_of_ble_eq_true rfl) rfl (sp_in _ _ _ _ _) ?_
    refine ar_ret rfl (bi_ret _) ?_
    show aRun _ (aCall Mt _) _ 10 (_, [_], _, _, _)
    refine ar_if1t rfl (bi_e0t c1) ?_
    refine ar_push rfl ?_
    refine ar_ret rfl rfl ?_
    exact ⟨rfl, hJ _ _ _⟩
  · refine ar_ldI rfl rfl ?_
    refine ar_push rfl ?_
    refine ar_push rfl ?_
    refine ar_callv rfl rfl (Nat.le_of_ble_eq_true rfl) (Nat.le_of_ble_eq_true rfl) rfl (sp_within _ _ _ _ _) ?_
    refine ar_neB rfl (fun c2 => ?_) (fun c2 => ?_)
    · refine ar_ldI rfl rfl ?_
      refine ar_push rfl ?_
      refine ar_push rfl ?_
      refine ar_callv rfl rfl (Nat.le_of_ble_eq_true rfl) (Nat.le_of_ble_eq_true rfl) rfl (sp_within _ _ _ _ _) ?_
      refine ar_eqB rfl (fun c3 => ?_) (fun c3 => ?_)
      · refine ar_push rfl ?_
        refine ar_ret rfl rfl ?_
        refine ⟨_, 0, 0, _, rfl, Nat.zero_le _, Nat.zero_le _, rfl, ?_⟩
        refine rgen rFr_F (fun g hr => ?_)
        refine ac_ink [some (.inr (.inr (some 69))), some (.inl _), some (.inl _), some (.inl _), some (.inl _), none] mt_193 (Nat.le_of_ble_eq_true rfl) rfl ?_
        refine ar_ldI rfl rfl ?_
        refine ar_push rfl ?_
        refine ar_div rfl (by decide) ?_
        refine ar_svIk [some (.inr (.inr (some 69))), some (.inl _), some (.inl _), some (.inl _), some (.inl _), some (.inl _)] rfl rfl ?_
        refine ar_ldI rfl rfl ?_
        refine ar_inl (mc := 0) (ms := 0) rfl rfl (Nat.le_of_ble_eq_true rfl) (Nat.le_of_ble_eq_true rfl) (by omega) (by omega) ?_
        refine ac_ink [some (.inl _)] mt_189 (Nat.le_of_ble_eq_true rfl) rfl ?_
        refine ar_ldI rfl rfl ?_
        refine ar_push rfl ?_
        refine ar_push rfl ?_
        refine ar_callv rfl rfl (Nat.le_of_ble_eq_true rfl) (Nat.le_of_ble_eq_true rfl) rfl (sp_in _ _ _ _ _) ?_
        refine ar_ret rfl (bi_ret _) ?_
        show aRun _ (aCall Mt _) _ 10 (_, [_], _, _, _)
        refine ar_if1f rfl (bi_e0f c1) ?_
        refine ar_ldI rfl rfl ?_
        refine ar_push rfl ?_
        refine ar_push rfl ?_
        refine ar_callv rfl rfl (Nat.le_of_ble_eq_true rfl) (Nat.le_of_ble_eq_true rfl) rfl (sp_in _ _ _ _ _) ?_
        refine ar_if1f rfl (bi_e0f c2) ?_
        refine ar_ldI rfl rfl ?_
        refine ar_push rfl ?_
        refine ar_push rfl ?_
        refine ar_callv rfl rfl (Nat.le_of_ble_eq_true rfl) (Nat.le_of_ble_eq_true rfl) rfl (sp_in _ _ _ _ _) ?_
        refine ar_if1t rfl (bi_e0t c3) ?_
        refine ar_push rfl ?_
        refine ar_ret rfl rfl ?_
        exact ⟨rfl, hJ _ _ _⟩
      · refine ar_ldI rfl rfl ?_
        refine ar_push rfl ?_
        refine ar_push rfl ?_
        refine ar_callv rfl rfl (Nat.le_of_ble_eq_true rfl) (Nat.le_of_ble_eq_true rfl) rfl (sp_within _ _ _ _ _) ?_
        refine ar_neB rfl (fun c4 => ?_) (fun c4 => ?_)
        · refine ar_ldI rfl rfl ?_
          refine ar_push rfl ?_
          refine ar_div rfl (by decide) ?_
          refine ar_push rfl ?_
          refine ar_div rfl (by decide) ?_
          refine ar_svIk [some (.inr (.inr (some 0))), some (.inl _), some (.inl _), some (.inl _), some (.inl _), some (.inl _), none, none] rfl rfl ?_
          refine ar_ldI rfl rfl ?_
          refine ar_push rfl ?_
          refine ar_div rfl (by decide) ?_
          refine ar_svIk [some (.inr (.inr (some 0))), some (.inl _), some (.inl _), some (.inl _), some (.inl _), some (.inl _), some (.inl _), none] rfl rfl ?_
          refine ar_ldI rfl rfl ?_
          refine ar_push rfl ?_
          refine ar_if2 rfl (fun c5 => ?_) (fun c5 => ?_)
          · refine ar_push rfl ?_
            refine ar_ret rfl rfl ?_
            refine ⟨_, 0, 0, _, rfl, Nat.zero_le _, Nat.zero_le _, rfl, ?_⟩
            refine rgen rFr_F (fun g hr => ?_)
            refine ac_ink [some (.inr (.inr (some 69))), some (.inl _), some (.inl _), some (.inl _), some (.inl _), none] mt_193 (Nat.le_of_ble_eq_true rfl) rfl ?_
            refine ar_ldI rfl rfl ?_
            refine ar_push rfl ?_
            refine ar_div rfl (by decide) ?_
            refine ar_svIk [some (.inr (.inr (some 69))), some (.inl _), some (.inl _), some (.inl _), some (.inl _), some (.inl _)] rfl rfl ?_
            refine ar_ldI rfl rfl ?_
            refine ar_inl (mc := 0) (ms := 0) rfl rfl (Nat.le_of_ble_eq_true rfl) (Nat.le_of_ble_eq_true rfl) (by omega) (by omega) ?_
            refine ac_ink [some (.inl _)] mt_189 (Nat.le_of_ble_eq_true rfl) rfl ?_
            refine ar_ldI rfl rfl ?_
            refine ar_push rfl ?_
            refine ar_push rfl ?_
            refine ar_callv rfl rfl (Nat.le_of_ble_eq_true rfl) (Nat.le_of_ble_eq_true rfl) rfl (sp_in _ _ _ _ _) ?_
            refine ar_ret rfl (bi_ret _) ?_
            show aRun _ (aCall Mt _) _ 10 (_, [_], _, _, _)
            refine ar_if1f rfl (bi_e0f c1) ?_
            refine ar_ldI rfl rfl ?_
            refine ar_push rfl ?_
            refine ar_push rfl ?_
            refine ar_callv rfl rfl (Nat.le_of_ble_eq_true rfl) (Nat.le_of_ble_eq_true rfl) rfl (sp_in _ _ _ _ _) ?_
            refine ar_if1f rfl (bi_e0f c2) ?_
            refine ar_ldI rfl rfl ?_
            refine ar_push rfl ?_
            refine ar_push rfl ?_
            refine ar_callv rfl rfl (Nat.le_of_ble_eq_true rfl) (Nat.le_of_ble_eq_true rfl) rfl (sp_in _ _ _ _ _) ?_
            refine ar_if1f rfl (bi_e0f c3) ?_
            refine ar_ldI rfl rfl ?_
            refine ar_push rfl ?_
            refine ar_div rfl (by decide) ?_
            refine ar_push rfl ?_
            refine ar_if2 rfl (fun c6 => ?_) (fun c6 => ?_)
            · refine ar_push rfl ?_
              refine ar_ret rfl rfl ?_
              exact ⟨rfl, hJ _ _ _⟩
            · refine ar_ldI rfl rfl ?_
              refine ar_push rfl ?_
              refine ar_div rfl (by decide) ?_
              rw [rm_two c3]
              refine ar_push rfl ?_
              refine ar_push rfl ?_
              refine ar_callv rfl rfl (Nat.le_of_ble_eq_true rfl) (Nat.le_of_ble_eq_true rfl) rfl (sp_in _ _ _ _ _) ?_
              refine ar_eqB rfl (fun c7 => ?_) (fun c7 => ?_)
              · refine ar_push rfl ?_
                refine ar_ret rfl rfl ?_
                exact ⟨rfl, hJ _ _ _⟩
              · refine ar_ldI rfl rfl ?_
                refine ar_push rfl ?_
                refine ar_push rfl ?_
                refine ar_callv rfl rfl (Nat.le_of_ble_eq_true rfl) (Nat.le_of_ble_eq_true rfl) rfl (sp_in _ _ _ _ _) ?_
                refine ar_if1t rfl (bi_n0t c4) ?_
                refine ar_ldA rfl rfl ?_
                refine ar_get rfl (hr.at 69 (by decide) (by decide) rfl) rfl ?_
                refine ar_push rfl ?_
                refine ar_if2t rfl (by decide) ?_
                refine ar_ldA rfl rfl ?_
                refine ar_ldI rfl rfl ?_
                refine ar_ldI rfl rfl ?_
                refine ar_ldI rfl rfl ?_
                refine ar_push rfl ?_
                refine ar_div rfl (by decide) ?_
                refine ar_ldI rfl rfl ?_
                refine ar_push rfl ?_
                refine ar_div rfl (by decide) ?_
                rw [rm_two c3]
                refine ar_ldI rfl rfl ?_
                refine ar_push rfl ?_
                refine ar_if2 rfl (fun c8 => ?_) (fun c8 => ?_)
                · refine ar_push rfl ?_
                  refine ar_ldI rfl rfl ?_
                  refine ar_push rfl ?_
                  refine ar_inl (mc := 0) (ms := 0) rfl (rcv_of (hr.at 69 (by decide) (by decide) rfl)) (Nat.le_of_ble_eq_true rfl) (Nat.le_of_ble_eq_true rfl) (by omega) (by omega) ?_
                  refine ac_ink [some (.inr (.inr (some 69))), some (.inl _), some (.inl _), some (.inl _), some (.inl _), some (.inl 1), some (.inl _), some (.inl (-1))] mt_192 (Nat.le_of_ble_eq_true rfl) rfl ?_
                  refine ar_ldA rfl rfl ?_
                  refine ar_get rfl (hr.at 69 (by decide) (by decide) rfl) rfl ?_
                  refine ar_ldA rfl rfl ?_
                  refine ar_get rfl (hr.at 69 (by decide) (by decide) rfl) rfl ?_
                  refine ar_ldI rfl rfl ?_
                  refine ar_ast rfl (hr.at 72 (by decide) (by decide) rfl) (by decide) (Nat.le_of_ble_eq_true rfl) ?_
                  refine ar_ldA rfl rfl ?_
                  refine ar_get rfl (hs_ne (by decide) (hr.at 69 (by decide) (by decide) rfl)) rfl ?_
                  refine ar_ldA rfl rfl ?_
                  refine ar_get rfl (hs_ne (by decide) (hr.at 69 (by decide) (by decide) rfl)) rfl ?_
                  refine ar_ldI rfl rfl ?_
                  refine ar_ast rfl (hs_ne (by decide) (hr.at 73 (by decide) (by decide) rfl)) (by decide) (Nat.le_of_ble_eq_true rfl) ?_
                  refine ar_ldA rfl rfl ?_
                  refine ar_get rfl (hs_ne (by decide) (hs_ne (by decide) (hr.at 69 (by decide) (by decide) rfl))) rfl ?_
                  refine ar_ldA rfl rfl ?_
                  refine ar_get rfl (hs_ne (by decide) (hs_ne (by decide) (hr.at 69 (by decide) (by decide) rfl))) rfl ?_
                  refine ar_ldI rfl rfl ?_
                  refine ar_ast rfl (hs_ne (by decide) (hs_ne (by decide) (hr.at 74 (by decide) (by decide) rfl))) (by decide) (Nat.le_of_ble_eq_true rfl) ?_
                  refine ar_ldA rfl rfl ?_
                  refine ar_get rfl (hs_ne (by decide) (hs_ne (by decide) (hs_ne (by decide) (hr.at 69 (by decide) (by decide) rfl)))) rfl ?_
                  refine ar_ldA rfl rfl ?_
                  refine ar_get rfl (hs_ne (by decide) (hs_ne (by decide) (hs_ne (by decide) (hr.at 69 (by decide) (by decide) rfl)))) rfl ?_
                  refine ar_ldI rfl rfl ?_
                  refine ar_ast rfl (hs_ne (by decide) (hs_ne (by decide) (hs_ne (by decide) (hr.at 75 (by decide) (by decide) rfl)))) (by decide) (Nat.le_of_ble_eq_true rfl) ?_
                  refine ar_ldA rfl rfl ?_
                  refine ar_get rfl (hs_ne (by decide) (hs_ne (by decide) (hs_ne (by decide) (hs_ne (by decide) (hr.at 69 (by decide) (by decide) rfl))))) rfl ?_
                  refine ar_ldA rfl rfl ?_
                  refine ar_get rfl (hs_ne (by decide) (hs_ne (by decide) (hs_ne (by decide) (hs_ne (by decide) (hr.at 69 (by decide) (by decide) rfl))))) rfl ?_
                  refine ar_ldI rfl rfl ?_
                  refine ar_ast rfl (hs_ne (by decide) (hs_ne (by decide) (hs_ne (by decide) (hs_ne (by decide) (hr.at 76 (by decide) (by decide) rfl))))) (by decide) (Nat.le_of_ble_eq_true rfl) ?_
                  refine ar_ldA rfl rfl ?_
                  refine ar_get rfl (hs_ne (by decide) (hs_ne (by decide) (hs_ne (by decide) (hs_ne (by decide) (hs_ne (by decide) (hr.at 69 (by decide) (by decide) rfl)))))) rfl ?_
                  refine ar_ldA rfl rfl ?_
                  refine ar_get rfl (hs_ne (by decide) (hs_ne (by decide) (hs_ne (by decide) (hs_ne (by decide) (hs_ne (by decide) (hr.at 69 (by decide) (by decide) rfl)))))) rfl ?_
                  refine ar_ldI rfl rfl ?_
                  refine ar_ast rfl (hs_ne (by decide) (hs_ne (by decide) (hs_ne (by decide) (hs_ne (by decide) (hs_ne (by decide) (hr.at 77 (by decide) (by decide) rfl)))))) (by decide) (Nat.le_of_ble_eq_true rfl) ?_
                  refine ar_ldA rfl rfl ?_
                  refine ar_get rfl (hs_ne (by decide) (hs_ne (by decide) (hs_ne (by decide) (hs_ne (by decide) (hs_ne (by decide) (hs_ne (by decide) (hr.at 69 (by decide) (by decide) rfl))))))) rfl ?_
                  refine ar_ldA rfl rfl ?_
                  refine ar_get rfl (hs_ne (by decide) (hs_ne (by decide) (hs_ne (by decide) (hs_ne (by decide) (hs_ne (by decide) (hs_ne (by decide) (hr.at 69 (by decide) (by decide) rfl))))))) rfl ?_
                  refine ar_ldI rfl rfl ?_
                  refine ar_ast rfl (hs_ne (by decide) (hs_ne (by decide) (hs_ne (by decide) (hs_ne (by decide) (hs_ne (by decide) (hs_ne (by decide) (hr.at 78 (by decide) (by decide) rfl))))))) (by decide) (Nat.le_of_ble_eq_true rfl) ?_
                  refine ar_ldA rfl rfl ?_
                  refine ar_get rfl (hs_ne (by decide) (hs_ne (by decide) (hs_ne (by decide) (hs_ne (by decide) (hs_ne (by decide) (hs_ne (by decide) (hs_ne (by decide) (hr.at 69 (by decide) (by decide) rfl)))))))) rfl ?_
                  refine ar_ldA rfl rfl ?_
                  refine ar_get rfl (hs_ne (by decide) (hs_ne (by decide) (hs_ne (by decide) (hs_ne (by decide) (hs_ne (by decide) (hs_ne (by decide) (hs_ne (by decide) (hr.at 69 (by decide) (by decide) rfl)))))))) rfl ?_
                  refine ar_push rfl ?_
                  refine ar_ast rfl (hs_ne (by decide) (hs_ne (by decide) (hs_ne (by decide) (hs_ne (by decide) (hs_ne (by decide) (hs_ne (by decide) (hs_ne (by decide) (hr.at 79 (by decide) (by decide) rfl)))))))) (by decide) (Nat.le_of_ble_eq_true rfl) ?_
                  refine ar_ldA rfl rfl ?_
                  refine ar_dup rfl rfl ?_
                  refine ar_get rfl (hs_ne (by decide) (hs_ne (by decide) (hs_ne (by decide) (hs_ne (by decide) (hs_ne (by decide) (hs_ne (by decide) (hs_ne (by decide) (hs_ne (by decide) (hr.at 69 (by decide) (by decide) rfl))))))))) rfl ?_
                  refine ar_push rfl ?_
                  refine ar_bink (z := 1) rfl (by decide) ?_
                  refine ar_put rfl (hs_ne (by decide) (hs_ne (by decide) (hs_ne (by decide) (hs_ne (by decide) (hs_ne (by decide) (hs_ne (by decide) (hs_ne (by decide) (hs_ne (by decide) (hr.at 69 (by decide) (by decide) rfl))))))))) (Nat.le_of_ble_eq_true rfl) rfl ?_
                  refine ar_ldA rfl rfl ?_
                  refine ar_get rfl (hs_eq (hs_ne (by decide) (hs_ne (by decide) (hs_ne (by decide) (hs_ne (by decide) (hs_ne (by decide) (hs_ne (by decide) (hs_ne (by decide) (hs_ne (by decide) (hr.at 69 (by decide) (by decide) rfl)))))))))) rfl ?_
                  refine ar_push rfl ?_
                  refine ar_bink (z := 0) rfl (by decide) ?_
                  refine ar_ret rfl rfl ?_
                  show aRun _ (aCall Mt _) _ 115 (_, [_], _, _, _)
                  refine ar_ret rfl rfl ?_
                  exact ⟨by exfalso; have z0 := (wi_to c1); have z1 := (wi_to c2); have z2 := (wi_to c3); have z3 := (wi_to c4); have z4 := (lt_no (le_t c5)); have z5 := (lt_no c6); have z6 := (wi_to c7); have z7 := (lt_to c8); have z8 := (rm_99 c3); have y0 : ((0) : Int32).toInt = 0 := (by decide); have y1 : ((5) : Int32).toInt = 5 := (by decide); have y2 : ((9) : Int32).toInt = 9 := (by decide); have y3 : ((99) : Int32).toInt = 99 := (by decide); have y4 : ((200) : Int32).toInt = 200 := (by decide); have y5 : ((359) : Int32).toInt = 359 := (by decide); have y6 : ((360) : Int32).toInt = 360 := (by decide); have y7 : ((40000) : Int32).toInt = 40000 := (by decide); have y8 : ((100000) : Int32).toInt = 100000 := (by decide); have y9 : ((199999) : Int32).toInt = 199999 := (by decide); have y10 : ((999999) : Int32).toInt = 999999 := (by decide); omega, hJ _ _ _⟩
                · refine ar_push rfl ?_
                  refine ar_go rfl ?_
                  refine ar_ldI rfl rfl ?_
                  refine ar_push rfl ?_
                  refine ar_inl (mc := 0) (ms := 0) rfl (rcv_of (hr.at 69 (by decide) (by decide) rfl)) (Nat.le_of_ble_eq_true rfl) (Nat.le_of_ble_eq_true rfl) (by omega) (by omega) ?_
                  refine ac_ink [some (.inr (.inr (some 69))), some (.inl _), some (.inl _), some (.inl _), some (.inl _), some (.inl (-1)), some (.inl _), some (.inl (-1))] mt_192 (Nat.le_of_ble_eq_true rfl) rfl ?_
                  refine ar_ldA rfl rfl ?_
                  refine ar_get rfl (hr.at 69 (by decide) (by decide) rfl) rfl ?_
                  refine ar_ldA rfl rfl ?_
                  refine ar_get rfl (hr.at 69 (by decide) (by decide) rfl) rfl ?_
                  refine ar_ldI rfl rfl ?_
                  refine ar_ast rfl (hr.at 72 (by decide) (by decide) rfl) (by decide) (Nat.le_of_ble_eq_true rfl) ?_
                  refine ar_ldA rfl rfl ?_
                  refine ar_get rfl (hs_ne (by decide) (hr.at 69 (by decide) (by decide) rfl)) rfl ?_
                  refine ar_ldA rfl rfl ?_
                  refine ar_get rfl (hs_ne (by decide) (hr.at 69 (by decide) (by decide) rfl)) rfl ?_
                  refine ar_ldI rfl rfl ?_
                  refine ar_ast rfl (hs_ne (by decide) (hr.at 73 (by decide) (by decide) rfl)) (by decide) (Nat.le_of_ble_eq_true rfl) ?_
                  refine ar_ldA rfl rfl ?_
                  refine ar_get rfl (hs_ne (by decide) (hs_ne (by decide) (hr.at 69 (by decide) (by decide) rfl))) rfl ?_
                  refine ar_ldA rfl rfl ?_
                  refine ar_get rfl (hs_ne (by decide) (hs_ne (by decide) (hr.at 69 (by decide) (by decide) rfl))) rfl ?_
                  refine ar_ldI rfl rfl ?_
                  refine ar_ast rfl (hs_ne (by decide) (hs_ne (by decide) (hr.at 74 (by decide) (by decide) rfl))) (by decide) (Nat.le_of_ble_eq_true rfl) ?_
                  refine ar_ldA rfl rfl ?_
                  refine ar_get rfl (hs_ne (by decide) (hs_ne (by decide) (hs_ne (by decide) (hr.at 69 (by decide) (by decide) rfl)))) rfl ?_
                  refine ar_ldA rfl rfl ?_
                  refine ar_get rfl (hs_ne (by decide) (hs_ne (by decide) (hs_ne (by decide) (hr.at 69 (by decide) (by decide) rfl)))) rfl ?_
                  refine ar_ldI rfl rfl ?_
                  refine ar_ast rfl (hs_ne (by decide) (hs_ne (by decide) (hs_ne (by decide) (hr.at 75 (by decide) (by decide) rfl)))) (by decide) (Nat.le_of_ble_eq_true rfl) ?_
                  refine ar_ldA rfl rfl ?_
                  refine ar_get rfl (hs_ne (by decide) (hs_ne (by decide) (hs_ne (by decide) (hs_ne (by decide) (hr.at 69 (by decide) (by decide) rfl))))) rfl ?_
                  refine ar_ldA rfl rfl ?_
                  refine ar_get rfl (hs_ne (by decide) (hs_ne (by decide) (hs_ne (by decide) (hs_ne (by decide) (hr.at 69 (by decide) (by decide) rfl))))) rfl ?_
                  refine ar_ldI rfl rfl ?_
                  refine ar_ast rfl (hs_ne (by decide) (hs_ne (by decide) (hs_ne (by decide) (hs_ne (by decide) (hr.at 76 (by decide) (by decide) rfl))))) (by decide) (Nat.le_of_ble_eq_true rfl) ?_
                  refine ar_ldA rfl rfl ?_
                  refine ar_get rfl (hs_ne (by decide) (hs_ne (by decide) (hs_ne (by decide) (hs_ne (by decide) (hs_ne (by decide) (hr.at 69 (by decide) (by decide) rfl)))))) rfl ?_
                  refine ar_ldA rfl rfl ?_
                  refine ar_get rfl (hs_ne (by decide) (hs_ne (by decide) (hs_ne (by decide) (hs_ne (by decide) (hs_ne (by decide) (hr.at 69 (by decide) (by decide) rfl)))))) rfl ?_
                  refine ar_ldI rfl rfl ?_
                  refine ar_ast rfl (hs_ne (by decide) (hs_ne (by decide) (hs_ne (by decide) (hs_ne (by decide) (hs_ne (by decide) (hr.at 77 (by decide) (by decide) rfl)))))) (by decide) (Nat.le_of_ble_eq_true rfl) ?_
                  refine ar_ldA rfl rfl ?_
                  refine ar_get rfl (hs_ne (by decide) (hs_ne (by decide) (hs_ne (by decide) (hs_ne (by decide) (hs_ne (by decide) (hs_ne (by decide) (hr.at 69 (by decide) (by decide) rfl))))))) rfl ?_
                  refine ar_ldA rfl rfl ?_
                  refine ar_get rfl (hs_ne (by decide) (hs_ne (by decide) (hs_ne (by decide) (hs_ne (by decide) (hs_ne (by decide) (hs_ne (by decide) (hr.at 69 (by decide) (by decide) rfl))))))) rfl ?_
                  refine ar_ldI rfl rfl ?_
                  refine ar_ast rfl (hs_ne (by decide) (hs_ne (by decide) (hs_ne (by decide) (hs_ne (by decide) (hs_ne (by decide) (hs_ne (by decide) (hr.at 78 (by decide) (by decide) rfl))))))) (by decide) (Nat.le_of_ble_eq_true rfl) ?_
                  refine ar_ldA rfl rfl ?_
                  refine ar_get rfl (hs_ne (by decide) (hs_ne (by decide) (hs_ne (by decide) (hs_ne (by decide) (hs_ne (by decide) (hs_ne (by decide) (hs_ne (by decide) (hr.at 69 (by decide) (by decide) rfl)))))))) rfl ?_
                  refine ar_ldA rfl rfl ?_
                  refine ar_get rfl (hs_ne (by decide) (hs_ne (by decide) (hs_ne (by decide) (hs_ne (by decide) (hs_ne (by decide) (hs_ne (by decide) (hs_ne (by decide) (hr.at 69 (by decide) (by decide) rfl)))))))) rfl ?_
                  refine ar_push rfl ?_
                  refine ar_ast rfl (hs_ne (by decide) (hs_ne (by decide) (hs_ne (by decide) (hs_ne (by decide) (hs_ne (by decide) (hs_ne (by decide) (hs_ne (by decide) (hr.at 79 (by decide) (by decide) rfl)))))))) (by decide) (Nat.le_of_ble_eq_true rfl) ?_
                  refine ar_ldA rfl rfl ?_
                  refine ar_dup rfl rfl ?_
                  refine ar_get rfl (hs_ne (by decide) (hs_ne (by decide) (hs_ne (by decide) (hs_ne (by decide) (hs_ne (by decide) (hs_ne (by decide) (hs_ne (by decide) (hs_ne (by decide) (hr.at 69 (by decide) (by decide) rfl))))))))) rfl ?_
                  refine ar_push rfl ?_
                  refine ar_bink (z := 1) rfl (by decide) ?_
                  refine ar_put rfl (hs_ne (by decide) (hs_ne (by decide) (hs_ne (by decide) (hs_ne (by decide) (hs_ne (by decide) (hs_ne (by decide) (hs_ne (by decide) (hs_ne (by decide) (hr.at 69 (by decide) (by decide) rfl))))))))) (Nat.le_of_ble_eq_true rfl) rfl ?_
                  refine ar_ldA rfl rfl ?_
                  refine ar_get rfl (hs_eq (hs_ne (by decide) (hs_ne (by decide) (hs_ne (by decide) (hs_ne (by decide) (hs_ne (by decide) (hs_ne (by decide) (hs_ne (by decide) (hs_ne (by decide) (hr.at 69 (by decide) (by decide) rfl)))))))))) rfl ?_
                  refine ar_push rfl ?_
                  refine ar_bink (z := 0) rfl (by decide) ?_
                  refine ar_ret rfl rfl ?_
                  show aRun _ (aCall Mt _) _ 115 (_, [_], _, _, _)
                  refine ar_ret rfl rfl ?_
                  exact ⟨by exfalso; have z0 := (wi_to c1); have z1 := (wi_to c2); have z2 := (wi_to c3); have z3 := (wi_to c4); have z4 := (lt_no (le_t c5)); have z5 := (lt_no c6); have z6 := (wi_to c7); have z7 := (lt_no c8); have z8 := (rm_99 c3); have y0 : ((0) : Int32).toInt = 0 := (by decide); have y1 : ((5) : Int32).toInt = 5 := (by decide); have y2 : ((9) : Int32).toInt = 9 := (by decide); have y3 : ((99) : Int32).toInt = 99 := (by decide); have y4 : ((200) : Int32).toInt = 200 := (by decide); have y5 : ((359) : Int32).toInt = 359 := (by decide); have y6 : ((360) : Int32).toInt = 360 := (by decide); have y7 : ((40000) : Int32).toInt = 40000 := (by decide); have y8 : ((100000) : Int32).toInt = 100000 := (by decide); have y9 : ((199999) : Int32).toInt = 199999 := (by decide); have y10 : ((999999) : Int32).toInt = 999999 := (by decide); omega, hJ _ _ _⟩
          · refine ar_ldI rfl rfl ?_
            refine ar_push rfl ?_
            refine ar_if2 rfl (fun c9 => ?_) (fun c9 => ?_)
            · refine ar_ldA rfl rfl ?_
              refine ar_get rfl rfl rfl ?_
              refine ar_get rfl rfl rfl ?_
              refine ar_push rfl ?_
              refine ar_if2t rfl (by decide) ?_
              refine ar_ldI rfl rfl ?_
              refine ar_push rfl ?_
              refine ar_if2 rfl (fun c10 => ?_) (fun c10 => ?_)
              · refine ar_push rfl ?_
                refine ar_svIk [some (.inr (.inr (some 0))), some (.inl _), some (.inl _), some (.inl _), some (.inl _), some (.inl _), some (.inl _), some (.inl 1)] rfl rfl ?_
                refine ar_ldA rfl rfl ?_
                refine ar_get rfl rfl rfl ?_
                refine ar_new rfl (by decide) (by decide) ?_
                refine ar_dup rfl rfl ?_
                refine ar_ldI rfl rfl ?_
                refine ar_ldI rfl rfl ?_
                refine ar_ldI rfl rfl ?_
                refine ar_ldI rfl rfl ?_
                refine ar_ldI rfl rfl ?_
                refine ar_ldI rfl rfl ?_
                refine ar_push rfl ?_
                refine ar_inl (mc := 3) (ms := 371) rfl (rcv_of rfl) (Nat.le_of_ble_eq_true rfl) (Nat.le_of_ble_eq_true rfl) (by decide) (by decide) ?_
                refine ac_ink [some (.inr (.inr (some 114))), some (.inl _), some (.inl _), some (.inl _), some (.inl _), some (.inl 1), some (.inl _), some (.inl (-1)), none] mt_18 (Nat.le_of_ble_eq_true rfl) rfl ?_
                refine ar_ldA rfl rfl ?_
                refine ar_obj rfl (Nat.le_of_ble_eq_true rfl) ?_
                refine ar_ldA rfl rfl ?_
                refine ar_push rfl ?_
                refine ar_put rfl rfl (Nat.le_of_ble_eq_true rfl) rfl ?_
                refine ar_ldA rfl rfl ?_
                refine ar_push rfl ?_
                refine ar_put rfl rfl (Nat.le_of_ble_eq_true rfl) rfl ?_
                refine ar_ldA rfl rfl ?_
                refine ar_push rfl ?_
                refine ar_put rfl rfl (Nat.le_of_ble_eq_true rfl) rfl ?_
                refine ar_ldA rfl rfl ?_
                refine ar_push rfl ?_
                refine ar_newI rfl (by decide) (by decide) (by decide) (by decide) ?_
                refine ar_put rfl rfl (Nat.le_of_ble_eq_true rfl) rfl ?_
                refine ar_ldA rfl rfl ?_
                refine ar_push rfl ?_
                refine ar_newI rfl (by decide) (by decide) (by decide) (by decide) ?_
                refine ar_put rfl rfl (Nat.le_of_ble_eq_true rfl) rfl ?_
                refine ar_ldA rfl rfl ?_
                refine ar_push rfl ?_
                refine ar_put rfl rfl (Nat.le_of_ble_eq_true rfl) rfl ?_
                refine ar_ldA rfl rfl ?_
                refine ar_push rfl ?_
                refine ar_newI rfl (by decide) (by decide) (by decide) (by decide) ?_
                refine ar_put rfl rfl (Nat.le_of_ble_eq_true rfl) rfl ?_
                refine ar_ldA rfl rfl ?_
                refine ar_ldI rfl rfl ?_
                refine ar_put rfl rfl (Nat.le_of_ble_eq_true rfl) rfl ?_
                refine ar_ldA rfl rfl ?_
                refine ar_ldI rfl rfl ?_
                refine ar_put rfl rfl (Nat.le_of_ble_eq_true rfl) rfl ?_
                refine ar_ldA rfl rfl ?_
                refine ar_ldI rfl rfl ?_
                refine ar_put rfl rfl (Nat.le_of_ble_eq_true rfl) rfl ?_
                refine ar_ldA rfl rfl ?_
                refine ar_ldI rfl rfl ?_
                refine ar_put rfl rfl (Nat.le_of_ble_eq_true rfl) rfl ?_
                refine ar_ldA rfl rfl ?_
                refine ar_ldI rfl rfl ?_
                refine ar_put rfl rfl (Nat.le_of_ble_eq_true rfl) rfl ?_
                refine ar_ldA rfl rfl ?_
                refine ar_ldI rfl rfl ?_
                refine ar_put rfl rfl (Nat.le_of_ble_eq_true rfl) rfl ?_
                refine ar_ldA rfl rfl ?_
                refine ar_ldI rfl rfl ?_
                refine ar_put rfl rfl (Nat.le_of_ble_eq_true rfl) rfl ?_
                refine ar_push rfl ?_
                refine ar_svIk [some (.inr (.inr (some 114))), some (.inl _), some (.inl _), some (.inl _), some (.inl _), some (.inl 1), some (.inl _), some (.inl (-1)), some (.inl 0)] rfl rfl ?_
                refine ci_start (a := 114) (q := 116) rfl rfl rfl (by decide) (by rw [List.length_replicate]; rfl) (fun ys hy => ?_)
                show aRun _ (aCall Mt _) _ 128 (_, [_, _], _, _, _)
                refine ar_inl (mc := 0) (ms := 0) rfl (rcv_of rfl) (Nat.le_of_ble_eq_true rfl) (Nat.le_of_ble_eq_true rfl) (by omega) (by omega) ?_
                refine ac_ink [some (.inr (.inr (some 1))), some (.inr (.inr (some 114)))] mt_59 (Nat.le_of_ble_eq_true rfl) rfl ?_
                refine ar_ldA rfl rfl ?_
                refine ar_get rfl rfl rfl ?_
                refine ar_push rfl ?_
                refine ar_if2t rfl (by decide) ?_
                refine ar_ldA rfl rfl ?_
                refine ar_get rfl rfl rfl ?_
                refine ar_ldA rfl rfl ?_
                refine ar_get rfl rfl rfl ?_
                refine ar_ldA rfl rfl ?_
                refine ar_astA rfl rfl rfl (by decide) (Nat.le_of_ble_eq_true rfl) ?_
                refine ar_ldA rfl rfl ?_
                refine ar_dup rfl rfl ?_
                refine ar_get rfl rfl rfl ?_
                refine ar_push rfl ?_
                refine ar_bink (z := 1) rfl (by decide) ?_
                refine ar_put rfl rfl (Nat.le_of_ble_eq_true rfl) rfl ?_
                refine ar_ldA rfl rfl ?_
                refine ar_ldA rfl rfl ?_
                refine ar_call rfl rfl (Nat.le_of_ble_eq_true rfl) (Nat.le_of_ble_eq_true rfl) (rcv_of rfl) (Nat.zero_le _) (Nat.zero_le _) (sp_rr0 (a := 114) (q := 115) (b := 1) rfl rfl rfl rfl (by decide) (by decide) (by decide) (by rw [List.length_replicate]; rfl)) (fun v h9 e => ?_)
                obtain ⟨rfl, ps9, f9, l9, hp9, rfl⟩ := e
                show aRun _ (aCall Mt _) _ 37 (_, [], _, _, _)
                refine ar_ldA rfl rfl ?_
                refine ar_get rfl rfl rfl ?_
                refine ar_push rfl ?_
                refine ar_bink (z := 0) rfl (by decide) ?_
                refine ar_ret rfl rfl ?_
                show aRun _ (aCall Mt _) _ 131 (_, [_], _, _, _)
                refine ar_ret rfl rfl ?_
                refine ⟨_, 0, 0, _, rfl, Nat.zero_le _, Nat.zero_le _, rfl, ?_⟩
                refine rgen (((((((((((((((((((((((rFr_F.app).sets (by decide)).sets (by decide)).sets (by decide)).app).sets (by decide)).app).sets (by decide)).sets (by decide)).app).sets (by decide)).sets (by decide)).sets (by decide)).sets (by decide)).sets (by decide)).sets (by decide)).sets (by decide)).sets (by decide)).sets (by decide)).sets (by decide)).sets (by decide)).sets (by decide)).sets (by decide)) (fun g hr => ?_)
                refine ac_ink [some (.inr (.inr (some 69))), some (.inl _), some (.inl _), some (.inl _), some (.inl _), none] mt_193 (Nat.le_of_ble_eq_true rfl) rfl ?_
                refine ar_ldI rfl rfl ?_
                refine ar_push rfl ?_
                refine ar_div rfl (by decide) ?_
                refine ar_svIk [some (.inr (.inr (some 69))), some (.inl _), some (.inl _), some (.inl _), some (.inl _), some (.inl _)] rfl rfl ?_
                refine ar_ldI rfl rfl ?_
                refine ar_inl (mc := 0) (ms := 0) rfl rfl (Nat.le_of_ble_eq_true rfl) (Nat.le_of_ble_eq_true rfl) (by omega) (by omega) ?_
                refine ac_ink [some (.inl _)] mt_189 (Nat.le_of_ble_eq_true rfl) rfl ?_
                refine ar_ldI rfl rfl ?_
                refine ar_push rfl ?_
                refine ar_push rfl ?_
                refine ar_callv rfl rfl (Nat.le_of_ble_eq_true rfl) (Nat.le_of_ble_eq_true rfl) rfl (sp_in _ _ _ _ _) ?_
                refine ar_ret rfl (bi_ret _) ?_
                show aRun _ (aCall Mt _) _ 10 (_, [_], _, _, _)
                refine ar_if1f rfl (bi_e0f c1) ?_
                refine ar_ldI rfl rfl ?_
                refine ar_push rfl ?_
                refine ar_push rfl ?_
                refine ar_callv rfl rfl (Nat.le_of_ble_eq_true rfl) (Nat.le_of_ble_eq_true rfl) rfl (sp_in _ _ _ _ _) ?_
                refine ar_if1f rfl (bi_e0f c2) ?_
                refine ar_ldI rfl rfl ?_
                refine ar_push rfl ?_
                refine ar_push rfl ?_
                refine ar_callv rfl rfl (Nat.le_of_ble_eq_true rfl) (Nat.le_of_ble_eq_true rfl) rfl (sp_in _ _ _ _ _) ?_
                refine ar_if1f rfl (bi_e0f c3) ?_
                refine ar_ldI rfl rfl ?_
                refine ar_push rfl ?_
                refine ar_div rfl (by decide) ?_
                refine ar_push rfl ?_
                refine ar_if2 rfl (fun c11 => ?_) (fun c11 => ?_)
                · refine ar_push rfl ?_
                  refine ar_ret rfl rfl ?_
                  exact ⟨by exfalso; have z0 := (wi_to c1); have z1 := (wi_to c2); have z2 := (wi_to c3); have z3 := (wi_to c4); have z4 := (lt_to (le_f c5)); have z5 := (lt_no (le_t c9)); have z6 := (lt_to c10); have z7 := (lt_to c11); have z8 := (rm_99 c3); have y0 : ((0) : Int32).toInt = 0 := (by decide); have y1 : ((5) : Int32).toInt = 5 := (by decide); have y2 : ((9) : Int32).toInt = 9 := (by decide); have y3 : ((200) : Int32).toInt = 200 := (by decide); have y4 : ((359) : Int32).toInt = 359 := (by decide); have y5 : ((360) : Int32).toInt = 360 := (by decide); have y6 : ((40000) : Int32).toInt = 40000 := (by decide); have y7 : ((100000) : Int32).toInt = 100000 := (by decide); have y8 : ((199999) : Int32).toInt = 199999 := (by decide); have y9 : ((999999) : Int32).toInt = 999999 := (by decide); omega, hJ _ _ _⟩
                · refine ar_ldI rfl rfl ?_
                  refine ar_push rfl ?_
                  refine ar_div rfl (by decide) ?_
                  rw [rm_two c3]
                  refine ar_push rfl ?_
                  refine ar_push rfl ?_
                  refine ar_callv rfl rfl (Nat.le_of_ble_eq_true rfl) (Nat.le_of_ble_eq_true rfl) rfl (sp_in _ _ _ _ _) ?_
                  refine ar_eqB rfl (fun c12 => ?_) (fun c12 => ?_)
                  · refine ar_push rfl ?_
                    refine ar_ret rfl rfl ?_
                    exact ⟨by exfalso; have z0 := (wi_to c1); have z1 := (wi_to c2); have z2 := (wi_to c3); have z3 := (wi_to c4); have z4 := (lt_to (le_f c5)); have z5 := (lt_no (le_t c9)); have z6 := (lt_to c10); have z7 := (lt_no c11); have z8 := (wi_no c12); have z9 := (rm_99 c3); have y0 : ((0) : Int32).toInt = 0 := (by decide); have y1 : ((5) : Int32).toInt = 5 := (by decide); have y2 : ((9) : Int32).toInt = 9 := (by decide); have y3 : ((99) : Int32).toInt = 99 := (by decide); have y4 : ((200) : Int32).toInt = 200 := (by decide); have y5 : ((359) : Int32).toInt = 359 := (by decide); have y6 : ((360) : Int32).toInt = 360 := (by decide); have y7 : ((40000) : Int32).toInt = 40000 := (by decide); have y8 : ((100000) : Int32).toInt = 100000 := (by decide); have y9 : ((199999) : Int32).toInt = 199999 := (by decide); have y10 : ((999999) : Int32).toInt = 999999 := (by decide); omega, hJ _ _ _⟩
                  · refine ar_ldI rfl rfl ?_
                    refine ar_push rfl ?_
                    refine ar_push rfl ?_
                    refine ar_callv rfl rfl (Nat.le_of_ble_eq_true rfl) (Nat.le_of_ble_eq_true rfl) rfl (sp_in _ _ _ _ _) ?_
                    refine ar_if1t rfl (bi_n0t c4) ?_
                    refine ar_ldA rfl rfl ?_
                    refine ar_get rfl (hr.at 69 (by decide) (by decide) rfl) rfl ?_
                    refine ar_push rfl ?_
                    refine ar_if2t rfl (by decide) ?_
                    refine ar_ldA rfl rfl ?_
                    refine ar_ldI rfl rfl ?_
                    refine ar_ldI rfl rfl ?_
                    refine ar_ldI rfl rfl ?_
                    refine ar_push rfl ?_
                    refine ar_div rfl (by decide) ?_
                    refine ar_ldI rfl rfl ?_
                    refine ar_push rfl ?_
                    refine ar_div rfl (by decide) ?_
                    rw [rm_two c3]
                    refine ar_ldI rfl rfl ?_
                    refine ar_push rfl ?_
                    refine ar_if2t rfl c10 ?_
                    refine ar_push rfl ?_
                    refine ar_ldI rfl rfl ?_
                    refine ar_push rfl ?_
                    refine ar_inl (mc := 0) (ms := 0) rfl (rcv_of (hr.at 69 (by decide) (by decide) rfl)) (Nat.le_of_ble_eq_true rfl) (Nat.le_of_ble_eq_true rfl) (by omega) (by omega) ?_
                    refine ac_ink [some (.inr (.inr (some 69))), some (.inl _), some (.inl _), some (.inl _), some (.inl _), some (.inl 1), some (.inl _), some (.inl (-1))] mt_192 (Nat.le_of_ble_eq_true rfl) rfl ?_
                    refine ar_ldA rfl rfl ?_
                    refine ar_get rfl (hr.at 69 (by decide) (by decide) rfl) rfl ?_
                    refine ar_ldA rfl rfl ?_
                    refine ar_get rfl (hr.at 69 (by decide) (by decide) rfl) rfl ?_
                    refine ar_ldI rfl rfl ?_
                    refine ar_ast rfl (hr.at 72 (by decide) (by decide) rfl) (by decide) (Nat.le_of_ble_eq_true rfl) ?_
                    refine ar_ldA rfl rfl ?_
                    refine ar_get rfl (hs_ne (by decide) (hr.at 69 (by decide) (by decide) rfl)) rfl ?_
                    refine ar_ldA rfl rfl ?_
                    refine ar_get rfl (hs_ne (by decide) (hr.at 69 (by decide) (by decide) rfl)) rfl ?_
                    refine ar_ldI rfl rfl ?_
                    refine ar_ast rfl (hs_ne (by decide) (hr.at 73 (by decide) (by decide) rfl)) (by decide) (Nat.le_of_ble_eq_true rfl) ?_
                    refine ar_ldA rfl rfl ?_
                    refine ar_get rfl (hs_ne (by decide) (hs_ne (by decide) (hr.at 69 (by decide) (by decide) rfl))) rfl ?_
                    refine ar_ldA rfl rfl ?_
                    refine ar_get rfl (hs_ne (by decide) (hs_ne (by decide) (hr.at 69 (by decide) (by decide) rfl))) rfl ?_
                    refine ar_ldI rfl rfl ?_
                    refine ar_ast rfl (hs_ne (by decide) (hs_ne (by decide) (hr.at 74 (by decide) (by decide) rfl))) (by decide) (Nat.le_of_ble_eq_true rfl) ?_
                    refine ar_ldA rfl rfl ?_
                    refine ar_get rfl (hs_ne (by decide) (hs_ne (by decide) (hs_ne (by decide) (hr.at 69 (by decide) (by decide) rfl)))) rfl ?_
                    refine ar_ldA rfl rfl ?_
                    refine ar_get rfl (hs_ne (by decide) (hs_ne (by decide) (hs_ne (by decide) (hr.at 69 (by decide) (by decide) rfl)))) rfl ?_
                    refine ar_ldI rfl rfl ?_
                    refine ar_ast rfl (hs_ne (by decide) (hs_ne (by decide) (hs_ne (by decide) (hr.at 75 (by decide) (by decide) rfl)))) (by decide) (Nat.le_of_ble_eq_true rfl) ?_
                    refine ar_ldA rfl rfl ?_
                    refine ar_get rfl (hs_ne (by decide) (hs_ne (by decide) (hs_ne (by decide) (hs_ne (by decide) (hr.at 69 (by decide) (by decide) rfl))))) rfl ?_
                    refine ar_ldA rfl rfl ?_
                    refine ar_get rfl (hs_ne (by decide) (hs_ne (by decide) (hs_ne (by decide) (hs_ne (by decide) (hr.at 69 (by decide) (by decide) rfl))))) rfl ?_
                    refine ar_ldI rfl rfl ?_
                    refine ar_ast rfl (hs_ne (by decide) (hs_ne (by decide) (hs_ne (by decide) (hs_ne (by decide) (hr.at 76 (by decide) (by decide) rfl))))) (by decide) (Nat.le_of_ble_eq_true rfl) ?_
                    refine ar_ldA rfl rfl ?_
                    refine ar_get rfl (hs_ne (by decide) (hs_ne (by decide) (hs_ne (by decide) (hs_ne (by decide) (hs_ne (by decide) (hr.at 69 (by decide) (by decide) rfl)))))) rfl ?_
                    refine ar_ldA rfl rfl ?_
                    refine ar_get rfl (hs_ne (by decide) (hs_ne (by decide) (hs_ne (by decide) (hs_ne (by decide) (hs_ne (by decide) (hr.at 69 (by decide) (by decide) rfl)))))) rfl ?_
                    refine ar_ldI rfl rfl ?_
                    refine ar_ast rfl (hs_ne (by decide) (hs_ne (by decide) (hs_ne (by decide) (hs_ne (by decide) (hs_ne (by decide) (hr.at 77 (by decide) (by decide) rfl)))))) (by decide) (Nat.le_of_ble_eq_true rfl) ?_
                    refine ar_ldA rfl rfl ?_
                    refine ar_get rfl (hs_ne (by decide) (hs_ne (by decide) (hs_ne (by decide) (hs_ne (by decide) (hs_ne (by decide) (hs_ne (by decide) (hr.at 69 (by decide) (by decide) rfl))))))) rfl ?_
                    refine ar_ldA rfl rfl ?_
                    refine ar_get rfl (hs_ne (by decide) (hs_ne (by decide) (hs_ne (by decide) (hs_ne (by decide) (hs_ne (by decide) (hs_ne (by decide) (hr.at 69 (by decide) (by decide) rfl))))))) rfl ?_
                    refine ar_ldI rfl rfl ?_
                    refine ar_ast rfl (hs_ne (by decide) (hs_ne (by decide) (hs_ne (by decide) (hs_ne (by decide) (hs_ne (by decide) (hs_ne (by decide) (hr.at 78 (by decide) (by decide) rfl))))))) (by decide) (Nat.le_of_ble_eq_true rfl) ?_
                    refine ar_ldA rfl rfl ?_
                    refine ar_get rfl (hs_ne (by decide) (hs_ne (by decide) (hs_ne (by decide) (hs_ne (by decide) (hs_ne (by decide) (hs_ne (by decide) (hs_ne (by decide) (hr.at 69 (by decide) (by decide) rfl)))))))) rfl ?_
                    refine ar_ldA rfl rfl ?_
                    refine ar_get rfl (hs_ne (by decide) (hs_ne (by decide) (hs_ne (by decide) (hs_ne (by decide) (hs_ne (by decide) (hs_ne (by decide) (hs_ne (by decide) (hr.at 69 (by decide) (by decide) rfl)))))))) rfl ?_
                    refine ar_push rfl ?_
                    refine ar_ast rfl (hs_ne (by decide) (hs_ne (by decide) (hs_ne (by decide) (hs_ne (by decide) (hs_ne (by decide) (hs_ne (by decide) (hs_ne (by decide) (hr.at 79 (by decide) (by decide) rfl)))))))) (by decide) (Nat.le_of_ble_eq_true rfl) ?_
                    refine ar_ldA rfl rfl ?_
                    refine ar_dup rfl rfl ?_
                    refine ar_get rfl (hs_ne (by decide) (hs_ne (by decide) (hs_ne (by decide) (hs_ne (by decide) (hs_ne (by decide) (hs_ne (by decide) (hs_ne (by decide) (hs_ne (by decide) (hr.at 69 (by decide) (by decide) rfl))))))))) rfl ?_
                    refine ar_push rfl ?_
                    refine ar_bink (z := 1) rfl (by decide) ?_
                    refine ar_put rfl (hs_ne (by decide) (hs_ne (by decide) (hs_ne (by decide) (hs_ne (by decide) (hs_ne (by decide) (hs_ne (by decide) (hs_ne (by decide) (hs_ne (by decide) (hr.at 69 (by decide) (by decide) rfl))))))))) (Nat.le_of_ble_eq_true rfl) rfl ?_
                    refine ar_ldA rfl rfl ?_
                    refine ar_get rfl (hs_eq (hs_ne (by decide) (hs_ne (by decide) (hs_ne (by decide) (hs_ne (by decide) (hs_ne (by decide) (hs_ne (by decide) (hs_ne (by decide) (hs_ne (by decide) (hr.at 69 (by decide) (by decide) rfl)))))))))) rfl ?_
                    refine ar_push rfl ?_
                    refine ar_bink (z := 0) rfl (by decide) ?_
                    refine ar_ret rfl rfl ?_
                    show aRun _ (aCall Mt _) _ 115 (_, [_], _, _, _)
                    refine ar_ret rfl rfl ?_
                    exact ⟨rfl, hJ _ _ _⟩
              · refine ar_push rfl ?_
                refine ar_go rfl ?_
                refine ar_svIk [some (.inr (.inr (some 0))), some (.inl _), some (.inl _), some (.inl _), some (.inl _), some (.inl _), some (.inl _), some (.inl (-1))] rfl rfl ?_
                refine ar_ldA rfl rfl ?_
                refine ar_get rfl rfl rfl ?_
                refine ar_new rfl (by decide) (by decide) ?_
                refine ar_dup rfl rfl ?_
                refine ar_ldI rfl rfl ?_
                refine ar_ldI rfl rfl ?_
                refine ar_ldI rfl rfl ?_
                refine ar_ldI rfl rfl ?_
                refine ar_ldI rfl rfl ?_
                refine ar_ldI rfl rfl ?_
                refine ar_push rfl ?_
                refine ar_inl (mc := 3) (ms := 371) rfl (rcv_of rfl) (Nat.le_of_ble_eq_true rfl) (Nat.le_of_ble_eq_true rfl) (by decide) (by decide) ?_
                refine ac_ink [some (.inr (.inr (some 114))), some (.inl _), some (.inl _), some (.inl _), some (.inl _), some (.inl (-1)), some (.inl _), some (.inl (-1)), none] mt_18 (Nat.le_of_ble_eq_true rfl) rfl ?_
                refine ar_ldA rfl rfl ?_
                refine ar_obj rfl (Nat.le_of_ble_eq_true rfl) ?_
                refine ar_ldA rfl rfl ?_
                refine ar_push rfl ?_
                refine ar_put rfl rfl (Nat.le_of_ble_eq_true rfl) rfl ?_
                refine ar_ldA rfl rfl ?_
                refine ar_push rfl ?_
                refine ar_put rfl rfl (Nat.le_of_ble_eq_true rfl) rfl ?_
                refine ar_ldA rfl rfl ?_
                refine ar_push rfl ?_
                refine ar_put rfl rfl (Nat.le_of_ble_eq_true rfl) rfl ?_
                refine ar_ldA rfl rfl ?_
                refine ar_push rfl ?_
                refine ar_newI rfl (by decide) (by decide) (by decide) (by decide) ?_
                refine ar_put rfl rfl (Nat.le_of_ble_eq_true rfl) rfl ?_
                refine ar_ldA rfl rfl ?_
                refine ar_push rfl ?_
                refine ar_newI rfl (by decide) (by decide) (by decide) (by decide) ?_
                refine ar_put rfl rfl (Nat.le_of_ble_eq_true rfl) rfl ?_
                refine ar_ldA rfl rfl ?_
                refine ar_push rfl ?_
                refine ar_put rfl rfl (Nat.le_of_ble_eq_true rfl) rfl ?_
                refine ar_ldA rfl rfl ?_
                refine ar_push rfl ?_
                refine ar_newI rfl (by decide) (by decide) (by decide) (by decide) ?_
                refine ar_put rfl rfl (Nat.le_of_ble_eq_true rfl) rfl ?_
                refine ar_ldA rfl rfl ?_
                refine ar_ldI rfl rfl ?_
                refine ar_put rfl rfl (Nat.le_of_ble_eq_true rfl) rfl ?_
                refine ar_ldA rfl rfl ?_
                refine ar_ldI rfl rfl ?_
                refine ar_put rfl rfl (Nat.le_of_ble_eq_true rfl) rfl ?_
                refine ar_ldA rfl rfl ?_
                refine ar_ldI rfl rfl ?_
                refine ar_put rfl rfl (Nat.le_of_ble_eq_true rfl) rfl ?_
                refine ar_ldA rfl rfl ?_
                refine ar_ldI rfl rfl ?_
                refine ar_put rfl rfl (Nat.le_of_ble_eq_true rfl) rfl ?_
                refine ar_ldA rfl rfl ?_
                refine ar_ldI rfl rfl ?_
                refine ar_put rfl rfl (Nat.le_of_ble_eq_true rfl) rfl ?_
                refine ar_ldA rfl rfl ?_
                refine ar_ldI rfl rfl ?_
                refine ar_put rfl rfl (Nat.le_of_ble_eq_true rfl) rfl ?_
                refine ar_ldA rfl rfl ?_
                refine ar_ldI rfl rfl ?_
                refine ar_put rfl rfl (Nat.le_of_ble_eq_true rfl) rfl ?_
                refine ar_push rfl ?_
                refine ar_svIk [some (.inr (.inr (some 114))), some (.inl _), some (.inl _), some (.inl _), some (.inl _), some (.inl (-1)), some (.inl _), some (.inl (-1)), some (.inl 0)] rfl rfl ?_
                refine ci_start (a := 114) (q := 116) rfl rfl rfl (by decide) (by rw [List.length_replicate]; rfl) (fun ys hy => ?_)
                show aRun _ (aCall Mt _) _ 128 (_, [_, _], _, _, _)
                refine ar_inl (mc := 0) (ms := 0) rfl (rcv_of rfl) (Nat.le_of_ble_eq_true rfl) (Nat.le_of_ble_eq_true rfl) (by omega) (by omega) ?_
                refine ac_ink [some (.inr (.inr (some 1))), some (.inr (.inr (some 114)))] mt_59 (Nat.le_of_ble_eq_true rfl) rfl ?_
                refine ar_ldA rfl rfl ?_
                refine ar_get rfl rfl rfl ?_
                refine ar_push rfl ?_
                refine ar_if2t rfl (by decide) ?_
                refine ar_ldA rfl rfl ?_
                refine ar_get rfl rfl rfl ?_
                refine ar_ldA rfl rfl ?_
                refine ar_get rfl rfl rfl ?_
                refine ar_ldA rfl rfl ?_
                refine ar_astA rfl rfl rfl (by decide) (Nat.le_of_ble_eq_true rfl) ?_
                refine ar_ldA rfl rfl ?_
                refine ar_dup rfl rfl ?_
                refine ar_get rfl rfl rfl ?_
                refine ar_push rfl ?_
                refine ar_bink (z := 1) rfl (by decide) ?_
                refine ar_put rfl rfl (Nat.le_of_ble_eq_true rfl) rfl ?_
                refine ar_ldA rfl rfl ?_
                refine ar_ldA rfl rfl ?_
                refine ar_call rfl rfl (Nat.le_of_ble_eq_true rfl) (Nat.le_of_ble_eq_true rfl) (rcv_of rfl) (Nat.zero_le _) (Nat.zero_le _) (sp_rr0 (a := 114) (q := 115) (b := 1) rfl rfl rfl rfl (by decide) (by decide) (by decide) (by rw [List.length_replicate]; rfl)) (fun v h9 e => ?_)
                obtain ⟨rfl, ps9, f9, l9, hp9, rfl⟩ := e
                show aRun _ (aCall Mt _) _ 37 (_, [], _, _, _)
                refine ar_ldA rfl rfl ?_
                refine ar_get rfl rfl rfl ?_
                refine ar_push rfl ?_
                refine ar_bink (z := 0) rfl (by decide) ?_
                refine ar_ret rfl rfl ?_
                show aRun _ (aCall Mt _) _ 131 (_, [_], _, _, _)
                refine ar_ret rfl rfl ?_
                refine ⟨_, 0, 0, _, rfl, Nat.zero_le _, Nat.zero_le _, rfl, ?_⟩
                refine rgen (((((((((((((((((((((((rFr_F.app).sets (by decide)).sets (by decide)).sets (by decide)).app).sets (by decide)).app).sets (by decide)).sets (by decide)).app).sets (by decide)).sets (by decide)).sets (by decide)).sets (by decide)).sets (by decide)).sets (by decide)).sets (by decide)).sets (by decide)).sets (by decide)).sets (by decide)).sets (by decide)).sets (by decide)).sets (by decide)) (fun g hr => ?_)
                refine ac_ink [some (.inr (.inr (some 69))), some (.inl _), some (.inl _), some (.inl _), some (.inl _), none] mt_193 (Nat.le_of_ble_eq_true rfl) rfl ?_
                refine ar_ldI rfl rfl ?_
                refine ar_push rfl ?_
                refine ar_div rfl (by decide) ?_
                refine ar_svIk [some (.inr (.inr (some 69))), some (.inl _), some (.inl _), some (.inl _), some (.inl _), some (.inl _)] rfl rfl ?_
                refine ar_ldI rfl rfl ?_
                refine ar_inl (mc := 0) (ms := 0) rfl rfl (Nat.le_of_ble_eq_true rfl) (Nat.le_of_ble_eq_true rfl) (by omega) (by omega) ?_
                refine ac_ink [some (.inl _)] mt_189 (Nat.le_of_ble_eq_true rfl) rfl ?_
                refine ar_ldI rfl rfl ?_
                refine ar_push rfl ?_
                refine ar_push rfl ?_
                refine ar_callv rfl rfl (Nat.le_of_ble_eq_true rfl) (Nat.le_of_ble_eq_true rfl) rfl (sp_in _ _ _ _ _) ?_
                refine ar_ret rfl (bi_ret _) ?_
                show aRun _ (aCall Mt _) _ 10 (_, [_], _, _, _)
                refine ar_if1f rfl (bi_e0f c1) ?_
                refine ar_ldI rfl rfl ?_
                refine ar_push rfl ?_
                refine ar_push rfl ?_
                refine ar_callv rfl rfl (Nat.le_of_ble_eq_true rfl) (Nat.le_of_ble_eq_true rfl) rfl (sp_in _ _ _ _ _) ?_
                refine ar_if1f rfl (bi_e0f c2) ?_
                refine ar_ldI rfl rfl ?_
                refine ar_push rfl ?_
                refine ar_push rfl ?_
                refine ar_callv rfl rfl (Nat.le_of_ble_eq_true rfl) (Nat.le_of_ble_eq_true rfl) rfl (sp_in _ _ _ _ _) ?_
                refine ar_if1f rfl (bi_e0f c3) ?_
                refine ar_ldI rfl rfl ?_
                refine ar_push rfl ?_
                refine ar_div rfl (by decide) ?_
                refine ar_push rfl ?_
                refine ar_if2 rfl (fun c13 => ?_) (fun c13 => ?_)
                · refine ar_push rfl ?_
                  refine ar_ret rfl rfl ?_
                  exact ⟨by exfalso; have z0 := (wi_to c1); have z1 := (wi_to c2); have z2 := (wi_to c3); have z3 := (wi_to c4); have z4 := (lt_to (le_f c5)); have z5 := (lt_no (le_t c9)); have z6 := (lt_no c10); have z7 := (lt_to c13); have z8 := (rm_99 c3); have y0 : ((0) : Int32).toInt = 0 := (by decide); have y1 : ((5) : Int32).toInt = 5 := (by decide); have y2 : ((9) : Int32).toInt = 9 := (by decide); have y3 : ((200) : Int32).toInt = 200 := (by decide); have y4 : ((359) : Int32).toInt = 359 := (by decide); have y5 : ((360) : Int32).toInt = 360 := (by decide); have y6 : ((40000) : Int32).toInt = 40000 := (by decide); have y7 : ((100000) : Int32).toInt = 100000 := (by decide); have y8 : ((199999) : Int32).toInt = 199999 := (by decide); have y9 : ((999999) : Int32).toInt = 999999 := (by decide); omega, hJ _ _ _⟩
                · refine ar_ldI rfl rfl ?_
                  refine ar_push rfl ?_
                  refine ar_div rfl (by decide) ?_
                  rw [rm_two c3]
                  refine ar_push rfl ?_
                  refine ar_push rfl ?_
                  refine ar_callv rfl rfl (Nat.le_of_ble_eq_true rfl) (Nat.le_of_ble_eq_true rfl) rfl (sp_in _ _ _ _ _) ?_
                  refine ar_eqB rfl (fun c14 => ?_) (fun c14 => ?_)
                  · refine ar_push rfl ?_
                    refine ar_ret rfl rfl ?_
                    exact ⟨by exfalso; have z0 := (wi_to c1); have z1 := (wi_to c2); have z2 := (wi_to c3); have z3 := (wi_to c4); have z4 := (lt_to (le_f c5)); have z5 := (lt_no (le_t c9)); have z6 := (lt_no c10); have z7 := (lt_no c13); have z8 := (wi_no c14); have z9 := (rm_99 c3); have y0 : ((0) : Int32).toInt = 0 := (by decide); have y1 : ((5) : Int32).toInt = 5 := (by decide); have y2 : ((9) : Int32).toInt = 9 := (by decide); have y3 : ((99) : Int32).toInt = 99 := (by decide); have y4 : ((200) : Int32).toInt = 200 := (by decide); have y5 : ((359) : Int32).toInt = 359 := (by decide); have y6 : ((360) : Int32).toInt = 360 := (by decide); have y7 : ((40000) : Int32).toInt = 40000 := (by decide); have y8 : ((100000) : Int32).toInt = 100000 := (by decide); have y9 : ((199999) : Int32).toInt = 199999 := (by decide); have y10 : ((999999) : Int32).toInt = 999999 := (by decide); omega, hJ _ _ _⟩
                  · refine ar_ldI rfl rfl ?_
                    refine ar_push rfl ?_
                    refine ar_push rfl ?_
                    refine ar_callv rfl rfl (Nat.le_of_ble_eq_true rfl) (Nat.le_of_ble_eq_true rfl) rfl (sp_in _ _ _ _ _) ?_
                    refine ar_if1t rfl (bi_n0t c4) ?_
                    refine ar_ldA rfl rfl ?_
                    refine ar_get rfl (hr.at 69 (by decide) (by decide) rfl) rfl ?_
                    refine ar_push rfl ?_
                    refine ar_if2t rfl (by decide) ?_
                    refine ar_ldA rfl rfl ?_
                    refine ar_ldI rfl rfl ?_
                    refine ar_ldI rfl rfl ?_
                    refine ar_ldI rfl rfl ?_
                    refine ar_push rfl ?_
                    refine ar_div rfl (by decide) ?_
                    refine ar_ldI rfl rfl ?_
                    refine ar_push rfl ?_
                    refine ar_div rfl (by decide) ?_
                    rw [rm_two c3]
                    refine ar_ldI rfl rfl ?_
                    refine ar_push rfl ?_
                    refine ar_if2f rfl c10 ?_
                    refine ar_push rfl ?_
                    refine ar_go rfl ?_
                    refine ar_ldI rfl rfl ?_
                    refine ar_push rfl ?_
                    refine ar_inl (mc := 0) (ms := 0) rfl (rcv_of (hr.at 69 (by decide) (by decide) rfl)) (Nat.le_of_ble_eq_true rfl) (Nat.le_of_ble_eq_true rfl) (by omega) (by omega) ?_
                    refine ac_ink [some (.inr (.inr (some 69))), some (.inl _), some (.inl _), some (.inl _), some (.inl _), some (.inl (-1)), some (.inl _), some (.inl (-1))] mt_192 (Nat.le_of_ble_eq_true rfl) rfl ?_
                    refine ar_ldA rfl rfl ?_
                    refine ar_get rfl (hr.at 69 (by decide) (by decide) rfl) rfl ?_
                    refine ar_ldA rfl rfl ?_
                    refine ar_get rfl (hr.at 69 (by decide) (by decide) rfl) rfl ?_
                    refine ar_ldI rfl rfl ?_
                    refine ar_ast rfl (hr.at 72 (by decide) (by decide) rfl) (by decide) (Nat.le_of_ble_eq_true rfl) ?_
                    refine ar_ldA rfl rfl ?_
                    refine ar_get rfl (hs_ne (by decide) (hr.at 69 (by decide) (by decide) rfl)) rfl ?_
                    refine ar_ldA rfl rfl ?_
                    refine ar_get rfl (hs_ne (by decide) (hr.at 69 (by decide) (by decide) rfl)) rfl ?_
                    refine ar_ldI rfl rfl ?_
                    refine ar_ast rfl (hs_ne (by decide) (hr.at 73 (by decide) (by decide) rfl)) (by decide) (Nat.le_of_ble_eq_true rfl) ?_
                    refine ar_ldA rfl rfl ?_
                    refine ar_get rfl (hs_ne (by decide) (hs_ne (by decide) (hr.at 69 (by decide) (by decide) rfl))) rfl ?_
                    refine ar_ldA rfl rfl ?_
                    refine ar_get rfl (hs_ne (by decide) (hs_ne (by decide) (hr.at 69 (by decide) (by decide) rfl))) rfl ?_
                    refine ar_ldI rfl rfl ?_
                    refine ar_ast rfl (hs_ne (by decide) (hs_ne (by decide) (hr.at 74 (by decide) (by decide) rfl))) (by decide) (Nat.le_of_ble_eq_true rfl) ?_
                    refine ar_ldA rfl rfl ?_
                    refine ar_get rfl (hs_ne (by decide) (hs_ne (by decide) (hs_ne (by decide) (hr.at 69 (by decide) (by decide) rfl)))) rfl ?_
                    refine ar_ldA rfl rfl ?_
                    refine ar_get rfl (hs_ne (by decide) (hs_ne (by decide) (hs_ne (by decide) (hr.at 69 (by decide) (by decide) rfl)))) rfl ?_
                    refine ar_ldI rfl rfl ?_
                    refine ar_ast rfl (hs_ne (by decide) (hs_ne (by decide) (hs_ne (by decide) (hr.at 75 (by decide) (by decide) rfl)))) (by decide) (Nat.le_of_ble_eq_true rfl) ?_
                    refine ar_ldA rfl rfl ?_
                    refine ar_get rfl (hs_ne (by decide) (hs_ne (by decide) (hs_ne (by decide) (hs_ne (by decide) (hr.at 69 (by decide) (by decide) rfl))))) rfl ?_
                    refine ar_ldA rfl rfl ?_
                    refine ar_get rfl (hs_ne (by decide) (hs_ne (by decide) (hs_ne (by decide) (hs_ne (by decide) (hr.at 69 (by decide) (by decide) rfl))))) rfl ?_
                    refine ar_ldI rfl rfl ?_
                    refine ar_ast rfl (hs_ne (by decide) (hs_ne (by decide) (hs_ne (by decide) (hs_ne (by decide) (hr.at 76 (by decide) (by decide) rfl))))) (by decide) (Nat.le_of_ble_eq_true rfl) ?_
                    refine ar_ldA rfl rfl ?_
                    refine ar_get rfl (hs_ne (by decide) (hs_ne (by decide) (hs_ne (by decide) (hs_ne (by decide) (hs_ne (by decide) (hr.at 69 (by decide) (by decide) rfl)))))) rfl ?_
                    refine ar_ldA rfl rfl ?_
                    refine ar_get rfl (hs_ne (by decide) (hs_ne (by decide) (hs_ne (by decide) (hs_ne (by decide) (hs_ne (by decide) (hr.at 69 (by decide) (by decide) rfl)))))) rfl ?_
                    refine ar_ldI rfl rfl ?_
                    refine ar_ast rfl (hs_ne (by decide) (hs_ne (by decide) (hs_ne (by decide) (hs_ne (by decide) (hs_ne (by decide) (hr.at 77 (by decide) (by decide) rfl)))))) (by decide) (Nat.le_of_ble_eq_true rfl) ?_
                    refine ar_ldA rfl rfl ?_
                    refine ar_get rfl (hs_ne (by decide) (hs_ne (by decide) (hs_ne (by decide) (hs_ne (by decide) (hs_ne (by decide) (hs_ne (by decide) (hr.at 69 (by decide) (by decide) rfl))))))) rfl ?_
                    refine ar_ldA rfl rfl ?_
                    refine ar_get rfl (hs_ne (by decide) (hs_ne (by decide) (hs_ne (by decide) (hs_ne (by decide) (hs_ne (by decide) (hs_ne (by decide) (hr.at 69 (by decide) (by decide) rfl))))))) rfl ?_
                    refine ar_ldI rfl rfl ?_
                    refine ar_ast rfl (hs_ne (by decide) (hs_ne (by decide) (hs_ne (by decide) (hs_ne (by decide) (hs_ne (by decide) (hs_ne (by decide) (hr.at 78 (by decide) (by decide) rfl))))))) (by decide) (Nat.le_of_ble_eq_true rfl) ?_
                    refine ar_ldA rfl rfl ?_
                    refine ar_get rfl (hs_ne (by decide) (hs_ne (by decide) (hs_ne (by decide) (hs_ne (by decide) (hs_ne (by decide) (hs_ne (by decide) (hs_ne (by decide) (hr.at 69 (by decide) (by decide) rfl)))))))) rfl ?_
                    refine ar_ldA rfl rfl ?_
                    refine ar_get rfl (hs_ne (by decide) (hs_ne (by decide) (hs_ne (by decide) (hs_ne (by decide) (hs_ne (by decide) (hs_ne (by decide) (hs_ne (by decide) (hr.at 69 (by decide) (by decide) rfl)))))))) rfl ?_
                    refine ar_push rfl ?_
                    refine ar_ast rfl (hs_ne (by decide) (hs_ne (by decide) (hs_ne (by decide) (hs_ne (by decide) (hs_ne (by decide) (hs_ne (by decide) (hs_ne (by decide) (hr.at 79 (by decide) (by decide) rfl)))))))) (by decide) (Nat.le_of_ble_eq_true rfl) ?_
                    refine ar_ldA rfl rfl ?_
                    refine ar_dup rfl rfl ?_
                    refine ar_get rfl (hs_ne (by decide) (hs_ne (by decide) (hs_ne (by decide) (hs_ne (by decide) (hs_ne (by decide) (hs_ne (by decide) (hs_ne (by decide) (hs_ne (by decide) (hr.at 69 (by decide) (by decide) rfl))))))))) rfl ?_
                    refine ar_push rfl ?_
                    refine ar_bink (z := 1) rfl (by decide) ?_
                    refine ar_put rfl (hs_ne (by decide) (hs_ne (by decide) (hs_ne (by decide) (hs_ne (by decide) (hs_ne (by decide) (hs_ne (by decide) (hs_ne (by decide) (hs_ne (by decide) (hr.at 69 (by decide) (by decide) rfl))))))))) (Nat.le_of_ble_eq_true rfl) rfl ?_
                    refine ar_ldA rfl rfl ?_
                    refine ar_get rfl (hs_eq (hs_ne (by decide) (hs_ne (by decide) (hs_ne (by decide) (hs_ne (by decide) (hs_ne (by decide) (hs_ne (by decide) (hs_ne (by decide) (hs_ne (by decide) (hr.at 69 (by decide) (by decide) rfl)))))))))) rfl ?_
                    refine ar_push rfl ?_
                    refine ar_bink (z := 0) rfl (by decide) ?_
                    refine ar_ret rfl rfl ?_
                    show aRun _ (aCall Mt _) _ 115 (_, [_], _, _, _)
                    refine ar_ret rfl rfl ?_
                    exact ⟨rfl, hJ _ _ _⟩
            · refine ar_push rfl ?_
              refine ar_ret rfl rfl ?_
              refine ⟨_, 0, 0, _, rfl, Nat.zero_le _, Nat.zero_le _, rfl, ?_⟩
              refine rgen rFr_F (fun g hr => ?_)
              refine ac_ink [some (.inr (.inr (some 69))), some (.inl _), some (.inl _), some (.inl _), some (.inl _), none] mt_193 (Nat.le_of_ble_eq_true rfl) rfl ?_
              refine ar_ldI rfl rfl ?_
              refine ar_push rfl ?_
              refine ar_div rfl (by decide) ?_
              refine ar_svIk [some (.inr (.inr (some 69))), some (.inl _), some (.inl _), some (.inl _), some (.inl _), some (.inl _)] rfl rfl ?_
              refine ar_ldI rfl rfl ?_
              refine ar_inl (mc := 0) (ms := 0) rfl rfl (Nat.le_of_ble_eq_true rfl) (Nat.le_of_ble_eq_true rfl) (by omega) (by omega) ?_
              refine ac_ink [some (.inl _)] mt_189 (Nat.le_of_ble_eq_true rfl) rfl ?_
              refine ar_ldI rfl rfl ?_
              refine ar_push rfl ?_
              refine ar_push rfl ?_
              refine ar_callv rfl rfl (Nat.le_of_ble_eq_true rfl) (Nat.le_of_ble_eq_true rfl) rfl (sp_in _ _ _ _ _) ?_
              refine ar_ret rfl (bi_ret _) ?_
              show aRun _ (aCall Mt _) _ 10 (_, [_], _, _, _)
              refine ar_if1f rfl (bi_e0f c1) ?_
              refine ar_ldI rfl rfl ?_
              refine ar_push rfl ?_
              refine ar_push rfl ?_
              refine ar_callv rfl rfl (Nat.le_of_ble_eq_true rfl) (Nat.le_of_ble_eq_true rfl) rfl (sp_in _ _ _ _ _) ?_
              refine ar_if1f rfl (bi_e0f c2) ?_
              refine ar_ldI rfl rfl ?_
              refine ar_push rfl ?_
              refine ar_push rfl ?_
              refine ar_callv rfl rfl (Nat.le_of_ble_eq_true rfl) (Nat.le_of_ble_eq_true rfl) rfl (sp_in _ _ _ _ _) ?_
              refine ar_if1f rfl (bi_e0f c3) ?_
              refine ar_ldI rfl rfl ?_
              refine ar_push rfl ?_
              refine ar_div rfl (by decide) ?_
              refine ar_push rfl ?_
              refine ar_if2 rfl (fun c15 => ?_) (fun c15 => ?_)
              · refine ar_push rfl ?_
                refine ar_ret rfl rfl ?_
                exact ⟨rfl, hJ _ _ _⟩
              · refine ar_ldI rfl rfl ?_
                refine ar_push rfl ?_
                refine ar_div rfl (by decide) ?_
                rw [rm_two c3]
                refine ar_push rfl ?_
                refine ar_push rfl ?_
                refine ar_callv rfl rfl (Nat.le_of_ble_eq_true rfl) (Nat.le_of_ble_eq_true rfl) rfl (sp_in _ _ _ _ _) ?_
                refine ar_eqB rfl (fun c16 => ?_) (fun c16 => ?_)
                · refine ar_push rfl ?_
                  refine ar_ret rfl rfl ?_
                  exact ⟨rfl, hJ _ _ _⟩
                · refine ar_ldI rfl rfl ?_
                  refine ar_push rfl ?_
                  refine ar_push rfl ?_
                  refine ar_callv rfl rfl (Nat.le_of_ble_eq_true rfl) (Nat.le_of_ble_eq_true rfl) rfl (sp_in _ _ _ _ _) ?_
                  refine ar_if1t rfl (bi_n0t c4) ?_
                  refine ar_ldA rfl rfl ?_
                  refine ar_get rfl (hr.at 69 (by decide) (by decide) rfl) rfl ?_
                  refine ar_push rfl ?_
                  refine ar_if2t rfl (by decide) ?_
                  refine ar_ldA rfl rfl ?_
                  refine ar_ldI rfl rfl ?_
                  refine ar_ldI rfl rfl ?_
                  refine ar_ldI rfl rfl ?_
                  refine ar_push rfl ?_
                  refine ar_div rfl (by decide) ?_
                  refine ar_ldI rfl rfl ?_
                  refine ar_push rfl ?_
                  refine ar_div rfl (by decide) ?_
                  rw [rm_two c3]
                  refine ar_ldI rfl rfl ?_
                  refine ar_push rfl ?_
                  refine ar_if2 rfl (fun c17 => ?_) (fun c17 => ?_)
                  · refine ar_push rfl ?_
                    refine ar_ldI rfl rfl ?_
                    refine ar_push rfl ?_
                    refine ar_inl (mc := 0) (ms := 0) rfl (rcv_of (hr.at 69 (by decide) (by decide) rfl)) (Nat.le_of_ble_eq_true rfl) (Nat.le_of_ble_eq_true rfl) (by omega) (by omega) ?_
                    refine ac_ink [some (.inr (.inr (some 69))), some (.inl _), some (.inl _), some (.inl _), some (.inl _), some (.inl 1), some (.inl _), some (.inl (-1))] mt_192 (Nat.le_of_ble_eq_true rfl) rfl ?_
                    refine ar_ldA rfl rfl ?_
                    refine ar_get rfl (hr.at 69 (by decide) (by decide) rfl) rfl ?_
                    refine ar_ldA rfl rfl ?_
                    refine ar_get rfl (hr.at 69 (by decide) (by decide) rfl) rfl ?_
                    refine ar_ldI rfl rfl ?_
                    refine ar_ast rfl (hr.at 72 (by decide) (by decide) rfl) (by decide) (Nat.le_of_ble_eq_true rfl) ?_
                    refine ar_ldA rfl rfl ?_
                    refine ar_get rfl (hs_ne (by decide) (hr.at 69 (by decide) (by decide) rfl)) rfl ?_
                    refine ar_ldA rfl rfl ?_
                    refine ar_get rfl (hs_ne (by decide) (hr.at 69 (by decide) (by decide) rfl)) rfl ?_
                    refine ar_ldI rfl rfl ?_
                    refine ar_ast rfl (hs_ne (by decide) (hr.at 73 (by decide) (by decide) rfl)) (by decide) (Nat.le_of_ble_eq_true rfl) ?_
                    refine ar_ldA rfl rfl ?_
                    refine ar_get rfl (hs_ne (by decide) (hs_ne (by decide) (hr.at 69 (by decide) (by decide) rfl))) rfl ?_
                    refine ar_ldA rfl rfl ?_
                    refine ar_get rfl (hs_ne (by decide) (hs_ne (by decide) (hr.at 69 (by decide) (by decide) rfl))) rfl ?_
                    refine ar_ldI rfl rfl ?_
                    refine ar_ast rfl (hs_ne (by decide) (hs_ne (by decide) (hr.at 74 (by decide) (by decide) rfl))) (by decide) (Nat.le_of_ble_eq_true rfl) ?_
                    refine ar_ldA rfl rfl ?_
                    refine ar_get rfl (hs_ne (by decide) (hs_ne (by decide) (hs_ne (by decide) (hr.at 69 (by decide) (by decide) rfl)))) rfl ?_
                    refine ar_ldA rfl rfl ?_
                    refine ar_get rfl (hs_ne (by decide) (hs_ne (by decide) (hs_ne (by decide) (hr.at 69 (by decide) (by decide) rfl)))) rfl ?_
                    refine ar_ldI rfl rfl ?_
                    refine ar_ast rfl (hs_ne (by decide) (hs_ne (by decide) (hs_ne (by decide) (hr.at 75 (by decide) (by decide) rfl)))) (by decide) (Nat.le_of_ble_eq_true rfl) ?_
                    refine ar_ldA rfl rfl ?_
                    refine ar_get rfl (hs_ne (by decide) (hs_ne (by decide) (hs_ne (by decide) (hs_ne (by decide) (hr.at 69 (by decide) (by decide) rfl))))) rfl ?_
                    refine ar_ldA rfl rfl ?_
                    refine ar_get rfl (hs_ne (by decide) (hs_ne (by decide) (hs_ne (by decide) (hs_ne (by decide) (hr.at 69 (by decide) (by decide) rfl))))) rfl ?_
                    refine ar_ldI rfl rfl ?_
                    refine ar_ast rfl (hs_ne (by decide) (hs_ne (by decide) (hs_ne (by decide) (hs_ne (by decide) (hr.at 76 (by decide) (by decide) rfl))))) (by decide) (Nat.le_of_ble_eq_true rfl) ?_
                    refine ar_ldA rfl rfl ?_
                    refine ar_get rfl (hs_ne (by decide) (hs_ne (by decide) (hs_ne (by decide) (hs_ne (by decide) (hs_ne (by decide) (hr.at 69 (by decide) (by decide) rfl)))))) rfl ?_
                    refine ar_ldA rfl rfl ?_
                    refine ar_get rfl (hs_ne (by decide) (hs_ne (by decide) (hs_ne (by decide) (hs_ne (by decide) (hs_ne (by decide) (hr.at 69 (by decide) (by decide) rfl)))))) rfl ?_
                    refine ar_ldI rfl rfl ?_
                    refine ar_ast rfl (hs_ne (by decide) (hs_ne (by decide) (hs_ne (by decide) (hs_ne (by decide) (hs_ne (by decide) (hr.at 77 (by decide) (by decide) rfl)))))) (by decide) (Nat.le_of_ble_eq_true rfl) ?_
                    refine ar_ldA rfl rfl ?_
                    refine ar_get rfl (hs_ne (by decide) (hs_ne (by decide) (hs_ne (by decide) (hs_ne (by decide) (hs_ne (by decide) (hs_ne (by decide) (hr.at 69 (by decide) (by decide) rfl))))))) rfl ?_
                    refine ar_ldA rfl rfl ?_
                    refine ar_get rfl (hs_ne (by decide) (hs_ne (by decide) (hs_ne (by decide) (hs_ne (by decide) (hs_ne (by decide) (hs_ne (by decide) (hr.at 69 (by decide) (by decide) rfl))))))) rfl ?_
                    refine ar_ldI rfl rfl ?_
                    refine ar_ast rfl (hs_ne (by decide) (hs_ne (by decide) (hs_ne (by decide) (hs_ne (by decide) (hs_ne (by decide) (hs_ne (by decide) (hr.at 78 (by decide) (by decide) rfl))))))) (by decide) (Nat.le_of_ble_eq_true rfl) ?_
                    refine ar_ldA rfl rfl ?_
                    refine ar_get rfl (hs_ne (by decide) (hs_ne (by decide) (hs_ne (by decide) (hs_ne (by decide) (hs_ne (by decide) (hs_ne (by decide) (hs_ne (by decide) (hr.at 69 (by decide) (by decide) rfl)))))))) rfl ?_
                    refine ar_ldA rfl rfl ?_
                    refine ar_get rfl (hs_ne (by decide) (hs_ne (by decide) (hs_ne (by decide) (hs_ne (by decide) (hs_ne (by decide) (hs_ne (by decide) (hs_ne (by decide) (hr.at 69 (by decide) (by decide) rfl)))))))) rfl ?_
                    refine ar_push rfl ?_
                    refine ar_ast rfl (hs_ne (by decide) (hs_ne (by decide) (hs_ne (by decide) (hs_ne (by decide) (hs_ne (by decide) (hs_ne (by decide) (hs_ne (by decide) (hr.at 79 (by decide) (by decide) rfl)))))))) (by decide) (Nat.le_of_ble_eq_true rfl) ?_
                    refine ar_ldA rfl rfl ?_
                    refine ar_dup rfl rfl ?_
                    refine ar_get rfl (hs_ne (by decide) (hs_ne (by decide) (hs_ne (by decide) (hs_ne (by decide) (hs_ne (by decide) (hs_ne (by decide) (hs_ne (by decide) (hs_ne (by decide) (hr.at 69 (by decide) (by decide) rfl))))))))) rfl ?_
                    refine ar_push rfl ?_
                    refine ar_bink (z := 1) rfl (by decide) ?_
                    refine ar_put rfl (hs_ne (by decide) (hs_ne (by decide) (hs_ne (by decide) (hs_ne (by decide) (hs_ne (by decide) (hs_ne (by decide) (hs_ne (by decide) (hs_ne (by decide) (hr.at 69 (by decide) (by decide) rfl))))))))) (Nat.le_of_ble_eq_true rfl) rfl ?_
                    refine ar_ldA rfl rfl ?_
                    refine ar_get rfl (hs_eq (hs_ne (by decide) (hs_ne (by decide) (hs_ne (by decide) (hs_ne (by decide) (hs_ne (by decide) (hs_ne (by decide) (hs_ne (by decide) (hs_ne (by decide) (hr.at 69 (by decide) (by decide) rfl)))))))))) rfl ?_
                    refine ar_push rfl ?_
                    refine ar_bink (z := 0) rfl (by decide) ?_
                    refine ar_ret rfl rfl ?_
                    show aRun _ (aCall Mt _) _ 115 (_, [_], _, _, _)
                    refine ar_ret rfl rfl ?_
                    exact ⟨by exfalso; have z0 := (wi_to c1); have z1 := (wi_to c2); have z2 := (wi_to c3); have z3 := (wi_to c4); have z4 := (lt_to (le_f c5)); have z5 := (lt_to (le_f c9)); have z6 := (lt_no c15); have z7 := (wi_to c16); have z8 := (lt_to c17); have z9 := (rm_99 c3); have y0 : ((0) : Int32).toInt = 0 := (by decide); have y1 : ((5) : Int32).toInt = 5 := (by decide); have y2 : ((9) : Int32).toInt = 9 := (by decide); have y3 : ((99) : Int32).toInt = 99 := (by decide); have y4 : ((200) : Int32).toInt = 200 := (by decide); have y5 : ((359) : Int32).toInt = 359 := (by decide); have y6 : ((360) : Int32).toInt = 360 := (by decide); have y7 : ((40000) : Int32).toInt = 40000 := (by decide); have y8 : ((100000) : Int32).toInt = 100000 := (by decide); have y9 : ((199999) : Int32).toInt = 199999 := (by decide); have y10 : ((999999) : Int32).toInt = 999999 := (by decide); omega, hJ _ _ _⟩
                  · refine ar_push rfl ?_
                    refine ar_go rfl ?_
                    refine ar_ldI rfl rfl ?_
                    refine ar_push rfl ?_
                    refine ar_inl (mc := 0) (ms := 0) rfl (rcv_of (hr.at 69 (by decide) (by decide) rfl)) (Nat.le_of_ble_eq_true rfl) (Nat.le_of_ble_eq_true rfl) (by omega) (by omega) ?_
                    refine ac_ink [some (.inr (.inr (some 69))), some (.inl _), some (.inl _), some (.inl _), some (.inl _), some (.inl (-1)), some (.inl _), some (.inl (-1))] mt_192 (Nat.le_of_ble_eq_true rfl) rfl ?_
                    refine ar_ldA rfl rfl ?_
                    refine ar_get rfl (hr.at 69 (by decide) (by decide) rfl) rfl ?_
                    refine ar_ldA rfl rfl ?_
                    refine ar_get rfl (hr.at 69 (by decide) (by decide) rfl) rfl ?_
                    refine ar_ldI rfl rfl ?_
                    refine ar_ast rfl (hr.at 72 (by decide) (by decide) rfl) (by decide) (Nat.le_of_ble_eq_true rfl) ?_
                    refine ar_ldA rfl rfl ?_
                    refine ar_get rfl (hs_ne (by decide) (hr.at 69 (by decide) (by decide) rfl)) rfl ?_
                    refine ar_ldA rfl rfl ?_
                    refine ar_get rfl (hs_ne (by decide) (hr.at 69 (by decide) (by decide) rfl)) rfl ?_
                    refine ar_ldI rfl rfl ?_
                    refine ar_ast rfl (hs_ne (by decide) (hr.at 73 (by decide) (by decide) rfl)) (by decide) (Nat.le_of_ble_eq_true rfl) ?_
                    refine ar_ldA rfl rfl ?_
                    refine ar_get rfl (hs_ne (by decide) (hs_ne (by decide) (hr.at 69 (by decide) (by decide) rfl))) rfl ?_
                    refine ar_ldA rfl rfl ?_
                    refine ar_get rfl (hs_ne (by decide) (hs_ne (by decide) (hr.at 69 (by decide) (by decide) rfl))) rfl ?_
                    refine ar_ldI rfl rfl ?_
                    refine ar_ast rfl (hs_ne (by decide) (hs_ne (by decide) (hr.at 74 (by decide) (by decide) rfl))) (by decide) (Nat.le_of_ble_eq_true rfl) ?_
                    refine ar_ldA rfl rfl ?_
                    refine ar_get rfl (hs_ne (by decide) (hs_ne (by decide) (hs_ne (by decide) (hr.at 69 (by decide) (by decide) rfl)))) rfl ?_
                    refine ar_ldA rfl rfl ?_
                    refine ar_get rfl (hs_ne (by decide) (hs_ne (by decide) (hs_ne (by decide) (hr.at 69 (by decide) (by decide) rfl)))) rfl ?_
                    refine ar_ldI rfl rfl ?_
                    refine ar_ast rfl (hs_ne (by decide) (hs_ne (by decide) (hs_ne (by decide) (hr.at 75 (by decide) (by decide) rfl)))) (by decide) (Nat.le_of_ble_eq_true rfl) ?_
                    refine ar_ldA rfl rfl ?_
                    refine ar_get rfl (hs_ne (by decide) (hs_ne (by decide) (hs_ne (by decide) (hs_ne (by decide) (hr.at 69 (by decide) (by decide) rfl))))) rfl ?_
                    refine ar_ldA rfl rfl ?_
                    refine ar_get rfl (hs_ne (by decide) (hs_ne (by decide) (hs_ne (by decide) (hs_ne (by decide) (hr.at 69 (by decide) (by decide) rfl))))) rfl ?_
                    refine ar_ldI rfl rfl ?_
                    refine ar_ast rfl (hs_ne (by decide) (hs_ne (by decide) (hs_ne (by decide) (hs_ne (by decide) (hr.at 76 (by decide) (by decide) rfl))))) (by decide) (Nat.le_of_ble_eq_true rfl) ?_
                    refine ar_ldA rfl rfl ?_
                    refine ar_get rfl (hs_ne (by decide) (hs_ne (by decide) (hs_ne (by decide) (hs_ne (by decide) (hs_ne (by decide) (hr.at 69 (by decide) (by decide) rfl)))))) rfl ?_
                    refine ar_ldA rfl rfl ?_
                    refine ar_get rfl (hs_ne (by decide) (hs_ne (by decide) (hs_ne (by decide) (hs_ne (by decide) (hs_ne (by decide) (hr.at 69 (by decide) (by decide) rfl)))))) rfl ?_
                    refine ar_ldI rfl rfl ?_
                    refine ar_ast rfl (hs_ne (by decide) (hs_ne (by decide) (hs_ne (by decide) (hs_ne (by decide) (hs_ne (by decide) (hr.at 77 (by decide) (by decide) rfl)))))) (by decide) (Nat.le_of_ble_eq_true rfl) ?_
                    refine ar_ldA rfl rfl ?_
                    refine ar_get rfl (hs_ne (by decide) (hs_ne (by decide) (hs_ne (by decide) (hs_ne (by decide) (hs_ne (by decide) (hs_ne (by decide) (hr.at 69 (by decide) (by decide) rfl))))))) rfl ?_
                    refine ar_ldA rfl rfl ?_
                    refine ar_get rfl (hs_ne (by decide) (hs_ne (by decide) (hs_ne (by decide) (hs_ne (by decide) (hs_ne (by decide) (hs_ne (by decide) (hr.at 69 (by decide) (by decide) rfl))))))) rfl ?_
                    refine ar_ldI rfl rfl ?_
                    refine ar_ast rfl (hs_ne (by decide) (hs_ne (by decide) (hs_ne (by decide) (hs_ne (by decide) (hs_ne (by decide) (hs_ne (by decide) (hr.at 78 (by decide) (by decide) rfl))))))) (by decide) (Nat.le_of_ble_eq_true rfl) ?_
                    refine ar_ldA rfl rfl ?_
                    refine ar_get rfl (hs_ne (by decide) (hs_ne (by decide) (hs_ne (by decide) (hs_ne (by decide) (hs_ne (by decide) (hs_ne (by decide) (hs_ne (by decide) (hr.at 69 (by decide) (by decide) rfl)))))))) rfl ?_
                    refine ar_ldA rfl rfl ?_
                    refine ar_get rfl (hs_ne (by decide) (hs_ne (by decide) (hs_ne (by decide) (hs_ne (by decide) (hs_ne (by decide) (hs_ne (by decide) (hs_ne (by decide) (hr.at 69 (by decide) (by decide) rfl)))))))) rfl ?_
                    refine ar_push rfl ?_
                    refine ar_ast rfl (hs_ne (by decide) (hs_ne (by decide) (hs_ne (by decide) (hs_ne (by decide) (hs_ne (by decide) (hs_ne (by decide) (hs_ne (by decide) (hr.at 79 (by decide) (by decide) rfl)))))))) (by decide) (Nat.le_of_ble_eq_true rfl) ?_
                    refine ar_ldA rfl rfl ?_
                    refine ar_dup rfl rfl ?_
                    refine ar_get rfl (hs_ne (by decide) (hs_ne (by decide) (hs_ne (by decide) (hs_ne (by decide) (hs_ne (by decide) (hs_ne (by decide) (hs_ne (by decide) (hs_ne (by decide) (hr.at 69 (by decide) (by decide) rfl))))))))) rfl ?_
                    refine ar_push rfl ?_
                    refine ar_bink (z := 1) rfl (by decide) ?_
                    refine ar_put rfl (hs_ne (by decide) (hs_ne (by decide) (hs_ne (by decide) (hs_ne (by decide) (hs_ne (by decide) (hs_ne (by decide) (hs_ne (by decide) (hs_ne (by decide) (hr.at 69 (by decide) (by decide) rfl))))))))) (Nat.le_of_ble_eq_true rfl) rfl ?_
                    refine ar_ldA rfl rfl ?_
                    refine ar_get rfl (hs_eq (hs_ne (by decide) (hs_ne (by decide) (hs_ne (by decide) (hs_ne (by decide) (hs_ne (by decide) (hs_ne (by decide) (hs_ne (by decide) (hs_ne (by decide) (hr.at 69 (by decide) (by decide) rfl)))))))))) rfl ?_
                    refine ar_push rfl ?_
                    refine ar_bink (z := 0) rfl (by decide) ?_
                    refine ar_ret rfl rfl ?_
                    show aRun _ (aCall Mt _) _ 115 (_, [_], _, _, _)
                    refine ar_ret rfl rfl ?_
                    exact ⟨by exfalso; have z0 := (wi_to c1); have z1 := (wi_to c2); have z2 := (wi_to c3); have z3 := (wi_to c4); have z4 := (lt_to (le_f c5)); have z5 := (lt_to (le_f c9)); have z6 := (lt_no c15); have z7 := (wi_to c16); have z8 := (lt_no c17); have z9 := (rm_99 c3); have y0 : ((0) : Int32).toInt = 0 := (by decide); have y1 : ((5) : Int32).toInt = 5 := (by decide); have y2 : ((9) : Int32).toInt = 9 := (by decide); have y3 : ((99) : Int32).toInt = 99 := (by decide); have y4 : ((200) : Int32).toInt = 200 := (by decide); have y5 : ((359) : Int32).toInt = 359 := (by decide); have y6 : ((360) : Int32).toInt = 360 := (by decide); have y7 : ((40000) : Int32).toInt = 40000 := (by decide); have y8 : ((100000) : Int32).toInt = 100000 := (by decide); have y9 : ((199999) : Int32).toInt = 199999 := (by decide); have y10 : ((999999) : Int32).toInt = 999999 := (by decide); omega, hJ _ _ _⟩
        · refine ar_push rfl ?_
          refine ar_ret rfl rfl ?_
          refine ⟨_, 0, 0, _, rfl, Nat.zero_le _, Nat.zero_le _, rfl, ?_⟩
          refine rgen rFr_F (fun g hr => ?_)
          refine ac_ink [some (.inr (.inr (some 69))), some (.inl _), some (.inl _), some (.inl _), some (.inl _), none] mt_193 (Nat.le_of_ble_eq_true rfl) rfl ?_
          refine ar_ldI rfl rfl ?_
          refine ar_push rfl ?_
          refine ar_div rfl (by decide) ?_
          refine ar_svIk [some (.inr (.inr (some 69))), some (.inl _), some (.inl _), some (.inl _), some (.inl _), some (.inl _)] rfl rfl ?_
          refine ar_ldI rfl rfl ?_
          refine ar_inl (mc := 0) (ms := 0) rfl rfl (Nat.le_of_ble_eq_true rfl) (Nat.le_of_ble_eq_true rfl) (by omega) (by omega) ?_
          refine ac_ink [some (.inl _)] mt_189 (Nat.le_of_ble_eq_true rfl) rfl ?_
          refine ar_ldI rfl rfl ?_
          refine ar_push rfl ?_
          refine ar_push rfl ?_
          refine ar_callv rfl rfl (Nat.le_of_ble_eq_true rfl) (Nat.le_of_ble_eq_true rfl) rfl (sp_in _ _ _ _ _) ?_
          refine ar_ret rfl (bi_ret _) ?_
          show aRun _ (aCall Mt _) _ 10 (_, [_], _, _, _)
          refine ar_if1f rfl (bi_e0f c1) ?_
          refine ar_ldI rfl rfl ?_
          refine ar_push rfl ?_
          refine ar_push rfl ?_
          refine ar_callv rfl rfl (Nat.le_of_ble_eq_true rfl) (Nat.le_of_ble_eq_true rfl) rfl (sp_in _ _ _ _ _) ?_
          refine ar_if1f rfl (bi_e0f c2) ?_
          refine ar_ldI rfl rfl ?_
          refine ar_push rfl ?_
          refine ar_push rfl ?_
          refine ar_callv rfl rfl (Nat.le_of_ble_eq_true rfl) (Nat.le_of_ble_eq_true rfl) rfl (sp_in _ _ _ _ _) ?_
          refine ar_if1f rfl (bi_e0f c3) ?_
          refine ar_ldI rfl rfl ?_
          refine ar_push rfl ?_
          refine ar_div rfl (by decide) ?_
          refine ar_push rfl ?_
          refine ar_if2 rfl (fun c18 => ?_) (fun c18 => ?_)
          · refine ar_push rfl ?_
            refine ar_ret rfl rfl ?_
            exact ⟨rfl, hJ _ _ _⟩
          · refine ar_ldI rfl rfl ?_
            refine ar_push rfl ?_
            refine ar_div rfl (by decide) ?_
            rw [rm_two c3]
            refine ar_push rfl ?_
            refine ar_push rfl ?_
            refine ar_callv rfl rfl (Nat.le_of_ble_eq_true rfl) (Nat.le_of_ble_eq_true rfl) rfl (sp_in _ _ _ _ _) ?_
            refine ar_eqB rfl (fun c19 => ?_) (fun c19 => ?_)
            · refine ar_push rfl ?_
              refine ar_ret rfl rfl ?_
              exact ⟨rfl, hJ _ _ _⟩
            · refine ar_ldI rfl rfl ?_
              refine ar_push rfl ?_
              refine ar_push rfl ?_
              refine ar_callv rfl rfl (Nat.le_of_ble_eq_true rfl) (Nat.le_of_ble_eq_true rfl) rfl (sp_in _ _ _ _ _) ?_
              refine ar_if1f rfl (bi_n0f c4) ?_
              refine ar_push rfl ?_
              refine ar_ret rfl rfl ?_
              exact ⟨rfl, hJ _ _ _⟩
    · refine ar_push rfl ?_
      refine ar_ret rfl rfl ?_
      refine ⟨_, 0, 0, _, rfl, Nat.zero_le _, Nat.zero_le _, rfl, ?_⟩
      refine rgen rFr_F (fun g hr => ?_)
      refine ac_ink [some (.inr (.inr (some 69))), some (.inl _), some (.inl _), some (.inl _), some (.inl _), none] mt_193 (Nat.le_of_ble_eq_true rfl) rfl ?_
      refine ar_ldI rfl rfl ?_
      refine ar_push rfl ?_
      refine ar_div rfl (by decide) ?_
      refine ar_svIk [some (.inr (.inr (some 69))), some (.inl _), some (.inl _), some (.inl _), some (.inl _), some (.inl _)] rfl rfl ?_
      refine ar_ldI rfl rfl ?_
      refine ar_inl (mc := 0) (ms := 0) rfl rfl (Nat.le_of_ble_eq_true rfl) (Nat.le_of_ble_eq_true rfl) (by omega) (by omega) ?_
      refine ac_ink [some (.inl _)] mt_189 (Nat.le_of_ble_eq_true rfl) rfl ?_
      refine ar_ldI rfl rfl ?_
      refine ar_push rfl ?_
      refine ar_push rfl ?_
      refine ar_callv rfl rfl (Nat.le_of_ble_eq_true rfl) (Nat.le_of_ble_eq_true rfl) rfl (sp_in _ _ _ _ _) ?_
      refine ar_ret rfl (bi_ret _) ?_
      show aRun _ (aCall Mt _) _ 10 (_, [_], _, _, _)
      refine ar_if1f rfl (bi_e0f c1) ?_
      refine ar_ldI rfl rfl ?_
      refine ar_push rfl ?_
      refine ar_push rfl ?_
      refine ar_callv rfl rfl (Nat.le_of_ble_eq_true rfl) (Nat.le_of_ble_eq_true rfl) rfl (sp_in _ _ _ _ _) ?_
      refine ar_if1t rfl (bi_e0t c2) ?_
      refine ar_push rfl ?_
      refine ar_ret rfl rfl ?_
      exact ⟨rfl, hJ _ _ _⟩
end P1C
