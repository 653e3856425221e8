/-! word on fresh objects, the mark's kind 3, printed by program -/
section P1C
set_option maxRecDepth 20000 in
set_option maxHeartbeats 8000000 in
theorem p1_10_3_g (x1 x2 x3 : Int32) (h0 : decide (x1 < 0) = false) (hk : ((x1 / 100) - (x1 / 100) / 100 * 100) = 3) (hp : wi (x1 / 10000) 0 8 = true) (hs : wi x2 0 400 = true) (h9 : decide ((x1 - x1 / 100 * 100) = 99) = true) (J : aH → Nat → Nat → Prop) (hJ : ∀ h a b, J h a b) (kc ks : Nat) (hkc : 1000 ≤ kc) (hks : 100000 ≤ ks) : aPairI 0 69 134 239 [.inl x1, .inl x2, .inl x3] J hF kc ks := by
  refine ⟨1, 13, _, by omega, by omega, rfl, ?_⟩
  refine ac_ink [some (.inr (.inr (some 0))), some (.inl _), some (.inl _), some (.inl _), none, none, none, none] mt_134 (Nat.le_of_ble_eq_true rfl) rfl ?_
  refine ar_ldI rfl rfl ?_
  refine ar_push rfl ?_
  refine ar_div rfl (by decide) ?_
  refine ar_svIk [some (.inr (.inr (some 0))), some (.inl _), some (.inl _), some (.inl _), some (.inl _), none, none, none] rfl rfl ?_
  refine ar_ldI rfl rfl ?_
  refine ar_push rfl ?_
  refine ar_div rfl (by decide) ?_
  refine ar_push rfl ?_
  refine ar_div rfl (by decide) ?_
  rw [hk]
  refine ar_svIk [some (.inr (.inr (some 0))), some (.inl _), some (.inl _), some (.inl _), some (.inl _), some (.inl 3), none, none] rfl rfl ?_
  refine ar_ldI rfl rfl ?_
  refine ar_push rfl ?_
  refine ar_div rfl (by decide) ?_
  refine ar_svIk [some (.inr (.inr (some 0))), some (.inl _), some (.inl _), some (.inl _), some (.inl _), some (.inl 3), some (.inl _), none] rfl rfl ?_
  refine ar_ldI rfl rfl ?_
  refine ar_if1f rfl h0 ?_
  refine ar_ldI rfl rfl ?_
  refine ar_inl (mc := 0) (ms := 0) rfl rfl (Nat.le_of_ble_eq_true rfl) (Nat.le_of_ble_eq_true rfl) (by omega) (by omega) ?_
  refine ac_ink [some (.inl _)] mt_175 (Nat.le_of_ble_eq_true rfl) rfl ?_
  refine ar_ldI rfl rfl ?_
  refine ar_push rfl ?_
  refine ar_push rfl ?_
  refine ar_callv rfl rfl (Nat.le_of_ble_eq_true rfl) (Nat.le_of_ble_eq_true rfl) rfl (sp_within _ _ _ _ _) ?_
  refine ar_ret rfl (bi_ret _) ?_
  show aRun _ (aCall Mt _) _ 31 (_, [_], _, _, _)
  refine ar_if1f rfl (bi_e0f hp) ?_
  refine ar_ldI rfl rfl ?_
  refine ar_push rfl ?_
  refine ar_if2f rfl (by decide) ?_
  refine ar_ldI rfl rfl ?_
  refine ar_push rfl ?_
  refine ar_push rfl ?_
  refine ar_callv rfl rfl (Nat.le_of_ble_eq_true rfl) (Nat.le_of_ble_eq_true rfl) rfl (sp_within _ _ _ _ _) ?_
  refine ar_if1t rfl (bi_n0t hs) ?_
  refine ar_ldI rfl rfl ?_
  refine ar_push rfl ?_
  refine ar_if2t rfl h9 ?_
  refine ar_ldA rfl rfl ?_
  refine ar_get rfl rfl rfl ?_
  refine ar_ldI rfl rfl ?_
  refine ar_ldI rfl rfl ?_
  refine ar_inl (mc := 0) (ms := 0) rfl (rcv_of rfl) (Nat.le_of_ble_eq_true rfl) (Nat.le_of_ble_eq_true rfl) (by omega) (by omega) ?_
  refine ac_ink [some (.inr (.inr (some 15))), some (.inl 3), some (.inl _)] mt_10 (Nat.le_of_ble_eq_true rfl) rfl ?_
  refine ar_ldI rfl rfl ?_
  refine ar_tabI rfl (by decide) rfl ?_
  refine ar_ldA rfl rfl ?_
  refine ar_ldI rfl rfl ?_
  refine ar_inl (mc := 0) (ms := 0) rfl (rcv_of rfl) (Nat.le_of_ble_eq_true rfl) (Nat.le_of_ble_eq_true rfl) (by omega) (by omega) ?_
  refine ac_ink [some (.inr (.inr (some 15))), some (.inl _)] mt_8 (Nat.le_of_ble_eq_true rfl) rfl ?_
  refine ar_ldI rfl rfl ?_
  refine ar_if1 rfl (fun c101 => ?_) (fun c101 => ?_)
  · refine ar_push rfl ?_
    refine ar_ret rfl rfl ?_
    show aRun _ (aCall Mt _) _ 64 (_, [_], _, _, _)
    refine ar_nulN rfl ?_
    refine ar_push rfl ?_
    refine ar_ret rfl rfl ?_
    show aRun _ (aCall Mt _) _ 85 (_, [_], _, _, _)
    refine ar_if1f rfl (by decide) ?_
    refine ar_push rfl ?_
    refine ar_ret rfl rfl ?_
    refine ⟨_, 0, 0, _, rfl, Nat.zero_le _, Nat.zero_le _, rfl, ?_⟩
    refine rgen rFr_F (fun g hr => ?_)
    refine ac_ink [some (.inr (.inr (some 69))), some (.inl _), some (.inl _), some (.inl _), none, none, none] mt_239 (Nat.le_of_ble_eq_true rfl) rfl ?_
    refine ar_ldI rfl rfl ?_
    refine ar_push rfl ?_
    refine ar_div rfl (by decide) ?_
    refine ar_svIk [some (.inr (.inr (some 69))), some (.inl _), some (.inl _), some (.inl _), some (.inl _), none, none] rfl rfl ?_
    refine ar_ldI rfl rfl ?_
    refine ar_push rfl ?_
    refine ar_div rfl (by decide) ?_
    refine ar_push rfl ?_
    refine ar_div rfl (by decide) ?_
    rw [hk]
    refine ar_svIk [some (.inr (.inr (some 69))), some (.inl _), some (.inl _), some (.inl _), some (.inl _), some (.inl 3), none] rfl rfl ?_
    refine ar_ldI rfl rfl ?_
    refine ar_push rfl ?_
    refine ar_div rfl (by decide) ?_
    refine ar_svIk [some (.inr (.inr (some 69))), some (.inl _), some (.inl _), some (.inl _), some (.inl _), some (.inl 3), some (.inl _)] rfl rfl ?_
    refine ar_ldI rfl rfl ?_
    refine ar_if1f rfl h0 ?_
    refine ar_ldI rfl rfl ?_
    refine ar_inl (mc := 0) (ms := 0) rfl rfl (Nat.le_of_ble_eq_true rfl) (Nat.le_of_ble_eq_true rfl) (by omega) (by omega) ?_
    refine ac_ink [some (.inl _)] mt_190 (Nat.le_of_ble_eq_true rfl) rfl ?_
    refine ar_ldI rfl rfl ?_
    refine ar_push rfl ?_
    refine ar_push rfl ?_
    refine ar_callv rfl rfl (Nat.le_of_ble_eq_true rfl) (Nat.le_of_ble_eq_true rfl) rfl (sp_in _ _ _ _ _) ?_
    refine ar_ret rfl (bi_ret _) ?_
    show aRun _ (aCall Mt _) _ 31 (_, [_], _, _, _)
    refine ar_if1f rfl (bi_e0f hp) ?_
    refine ar_ldI rfl rfl ?_
    refine ar_push rfl ?_
    refine ar_push rfl ?_
    refine ar_callv rfl rfl (Nat.le_of_ble_eq_true rfl) (Nat.le_of_ble_eq_true rfl) rfl (sp_in _ _ _ _ _) ?_
    refine ar_if1f rfl (bi_e0f (by decide)) ?_
    refine ar_ldI rfl rfl ?_
    refine ar_push rfl ?_
    refine ar_if2t rfl h9 ?_
    refine ar_ldI rfl rfl ?_
    refine ar_push rfl ?_
    refine ar_push rfl ?_
    refine ar_callv rfl rfl (Nat.le_of_ble_eq_true rfl) (Nat.le_of_ble_eq_true rfl) rfl (sp_in _ _ _ _ _) ?_
    refine ar_if1t rfl (bi_n0t hs) ?_
    refine ar_ldI rfl rfl ?_
    refine ar_inl (mc := 0) (ms := 0) rfl rfl (Nat.le_of_ble_eq_true rfl) (Nat.le_of_ble_eq_true rfl) (by omega) (by omega) ?_
    refine ac_ink [some (.inl 3)] mt_235 (Nat.le_of_ble_eq_true rfl) rfl ?_
    refine ar_ldI rfl rfl ?_
    refine ar_push rfl ?_
    refine ar_if2f rfl (by decide) ?_
    refine ar_ldI rfl rfl ?_
    refine ar_push rfl ?_
    refine ar_if2t rfl (by decide) ?_
    refine ar_push rfl ?_
    refine ar_ret rfl rfl ?_
    show aRun _ (aCall Mt _) _ 87 (_, [_], _, _, _)
    refine ar_if1t rfl (by decide) ?_
    refine ar_ldI rfl rfl ?_
    refine ar_inl (mc := 0) (ms := 0) rfl rfl (Nat.le_of_ble_eq_true rfl) (Nat.le_of_ble_eq_true rfl) (by omega) (by omega) ?_
    refine ac_ink [some (.inl 3)] mt_236 (Nat.le_of_ble_eq_true rfl) rfl ?_
    refine ar_ldI rfl rfl ?_
    refine ar_push rfl ?_
    refine ar_if2f rfl (by decide) ?_
    refine ar_ldI rfl rfl ?_
    refine ar_push rfl ?_
    refine ar_if2t rfl (by decide) ?_
    refine ar_push rfl ?_
    refine ar_ret rfl rfl ?_
    show aRun _ (aCall Mt _) _ 105 (_, [_], _, _, _)
    refine ar_if1t rfl (by decide) ?_
    refine ar_ldI rfl rfl ?_
    refine ar_push rfl ?_
    refine ar_if2f rfl (by decide) ?_
    refine ar_ldA rfl rfl ?_
    refine ar_ldI rfl rfl ?_
    refine ar_inl (mc := 0) (ms := 0) rfl (rcv_of (hr.at 69 (by decide) (by decide) rfl)) (Nat.le_of_ble_eq_true rfl) (Nat.le_of_ble_eq_true rfl) (by omega) (by omega) ?_
    refine ac_ink [some (.inr (.inr (some 69))), some (.inl _)] mt_233 (Nat.le_of_ble_eq_true rfl) rfl ?_
    refine ar_ldI rfl rfl ?_
    refine ar_push rfl ?_
    refine ar_ldA rfl rfl ?_
    refine ar_get rfl (hr.at 69 (by decide) (by decide) rfl) rfl ?_
    refine ar_push rfl ?_
    refine ar_bink (z := (-1)) rfl (by decide) ?_
    refine ar_callv rfl rfl (Nat.le_of_ble_eq_true rfl) (Nat.le_of_ble_eq_true rfl) rfl (sp_in _ _ _ _ _) ?_
    refine ar_ret rfl (bi_ret _) ?_
    show aRun _ (aCall Mt _) _ 128 (_, [_], _, _, _)
    refine ar_if1f rfl (bi_n0f (wi_n1 _)) ?_
    refine ar_push rfl ?_
    refine ar_ret rfl rfl ?_
    exact ⟨rfl, hJ _ _ _⟩
  · refine ar_ldI rfl rfl ?_
    refine ar_ldA rfl rfl ?_
    refine ar_get rfl rfl rfl ?_
    refine ar_if2t rfl (lt_f c101) ?_
    refine ar_push rfl ?_
    refine ar_ret rfl rfl ?_
    show aRun _ (aCall Mt _) _ 64 (_, [_], _, _, _)
    refine ar_nulN rfl ?_
    refine ar_push rfl ?_
    refine ar_ret rfl rfl ?_
    show aRun _ (aCall Mt _) _ 85 (_, [_], _, _, _)
    refine ar_if1f rfl (by decide) ?_
    refine ar_push rfl ?_
    refine ar_ret rfl rfl ?_
    refine ⟨_, 0, 0, _, rfl, Nat.zero_le _, Nat.zero_le _, rfl, ?_⟩
    refine rgen rFr_F (fun g hr => ?_)
    refine ac_ink [some (.inr (.inr (some 69))), some (.inl _), some (.inl _), some (.inl _), none, none, none] mt_239 (Nat.le_of_ble_eq_true rfl) rfl ?_
    refine ar_ldI rfl rfl ?_
    refine ar_push rfl ?_
    refine ar_div rfl (by decide) ?_
    refine ar_svIk [some (.inr (.inr (some 69))), some (.inl _), some (.inl _), some (.inl _), some (.inl _), none, none] rfl rfl ?_
    refine ar_ldI rfl rfl ?_
    refine ar_push rfl ?_
    refine ar_div rfl (by decide) ?_
    refine ar_push rfl ?_
    refine ar_div rfl (by decide) ?_
    rw [hk]
    refine ar_svIk [some (.inr (.inr (some 69))), some (.inl _), some (.inl _), some (.inl _), some (.inl _), some (.inl 3), none] rfl rfl ?_
    refine ar_ldI rfl rfl ?_
    refine ar_push rfl ?_
    refine ar_div rfl (by decide) ?_
    refine ar_svIk [some (.inr (.inr (some 69))), some (.inl _), some (.inl _), some (.inl _), some (.inl _), some (.inl 3), some (.inl _)] rfl rfl ?_
    refine ar_ldI rfl rfl ?_
    refine ar_if1f rfl h0 ?_
    refine ar_ldI rfl rfl ?_
    refine ar_inl (mc := 0) (ms := 0) rfl rfl (Nat.le_of_ble_eq_true rfl) (Nat.le_of_ble_eq_true rfl) (by omega) (by omega) ?_
    refine ac_ink [some (.inl _)] mt_190 (Nat.le_of_ble_eq_true rfl) rfl ?_
    refine ar_ldI rfl rfl ?_
    refine ar_push rfl ?_
    refine ar_push rfl ?_
    refine ar_callv rfl rfl (Nat.le_of_ble_eq_true rfl) (Nat.le_of_ble_eq_true rfl) rfl (sp_in _ _ _ _ _) ?_
    refine ar_ret rfl (bi_ret _) ?_
    show aRun _ (aCall Mt _) _ 31 (_, [_], _, _, _)
    refine ar_if1f rfl (bi_e0f hp) ?_
    refine ar_ldI rfl rfl ?_
    refine ar_push rfl ?_
    refine ar_push rfl ?_
    refine ar_callv rfl rfl (Nat.le_of_ble_eq_true rfl) (Nat.le_of_ble_eq_true rfl) rfl (sp_in _ _ _ _ _) ?_
    refine ar_if1f rfl (bi_e0f (by decide)) ?_
    refine ar_ldI rfl rfl ?_
    refine ar_push rfl ?_
    refine ar_if2t rfl h9 ?_
    refine ar_ldI rfl rfl ?_
    refine ar_push rfl ?_
    refine ar_push rfl ?_
    refine ar_callv rfl rfl (Nat.le_of_ble_eq_true rfl) (Nat.le_of_ble_eq_true rfl) rfl (sp_in _ _ _ _ _) ?_
    refine ar_if1t rfl (bi_n0t hs) ?_
    refine ar_ldI rfl rfl ?_
    refine ar_inl (mc := 0) (ms := 0) rfl rfl (Nat.le_of_ble_eq_true rfl) (Nat.le_of_ble_eq_true rfl) (by omega) (by omega) ?_
    refine ac_ink [some (.inl 3)] mt_235 (Nat.le_of_ble_eq_true rfl) rfl ?_
    refine ar_ldI rfl rfl ?_
    refine ar_push rfl ?_
    refine ar_if2f rfl (by decide) ?_
    refine ar_ldI rfl rfl ?_
    refine ar_push rfl ?_
    refine ar_if2t rfl (by decide) ?_
    refine ar_push rfl ?_
    refine ar_ret rfl rfl ?_
    show aRun _ (aCall Mt _) _ 87 (_, [_], _, _, _)
    refine ar_if1t rfl (by decide) ?_
    refine ar_ldI rfl rfl ?_
    refine ar_inl (mc := 0) (ms := 0) rfl rfl (Nat.le_of_ble_eq_true rfl) (Nat.le_of_ble_eq_true rfl) (by omega) (by omega) ?_
    refine ac_ink [some (.inl 3)] mt_236 (Nat.le_of_ble_eq_true rfl) rfl ?_
    refine ar_ldI rfl rfl ?_
    refine ar_push rfl ?_
    refine ar_if2f rfl (by decide) ?_
    refine ar_ldI rfl rfl ?_
    refine ar_push rfl ?_
    refine ar_if2t rfl (by decide) ?_
    refine ar_push rfl ?_
    refine ar_ret rfl rfl ?_
    show aRun _ (aCall Mt _) _ 105 (_, [_], _, _, _)
    refine ar_if1t rfl (by decide) ?_
    refine ar_ldI rfl rfl ?_
    refine ar_push rfl ?_
    refine ar_if2f rfl (by decide) ?_
    refine ar_ldA rfl rfl ?_
    refine ar_ldI rfl rfl ?_
    refine ar_inl (mc := 0) (ms := 0) rfl (rcv_of (hr.at 69 (by decide) (by decide) rfl)) (Nat.le_of_ble_eq_true rfl) (Nat.le_of_ble_eq_true rfl) (by omega) (by omega) ?_
    refine ac_ink [some (.inr (.inr (some 69))), some (.inl _)] mt_233 (Nat.le_of_ble_eq_true rfl) rfl ?_
    refine ar_ldI rfl rfl ?_
    refine ar_push rfl ?_
    refine ar_ldA rfl rfl ?_
    refine ar_get rfl (hr.at 69 (by decide) (by decide) rfl) rfl ?_
    refine ar_push rfl ?_
    refine ar_bink (z := (-1)) rfl (by decide) ?_
    refine ar_callv rfl rfl (Nat.le_of_ble_eq_true rfl) (Nat.le_of_ble_eq_true rfl) rfl (sp_in _ _ _ _ _) ?_
    refine ar_ret rfl (bi_ret _) ?_
    show aRun _ (aCall Mt _) _ 128 (_, [_], _, _, _)
    refine ar_if1f rfl (bi_n0f (wi_n1 _)) ?_
    refine ar_push rfl ?_
    refine ar_ret rfl rfl ?_
    exact ⟨rfl, hJ _ _ _⟩

end P1C
