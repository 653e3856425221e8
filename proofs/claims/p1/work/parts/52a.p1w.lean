/-! word on fresh objects: the calls that are refused, printed by program -/
section P1C
set_option maxRecDepth 20000 in
set_option maxHeartbeats 8000000 in
theorem p1_10_o (x1 x2 x3 : Int32) (h0 : decide (x1 < 0) = false) (h8 : decide (((x1 / 100) - (x1 / 100) / 100 * 100) < 8) = true) (hw : wi ((x1 / 100) - (x1 / 100) / 100 * 100) 0 7 = true) (hp : wi (x1 / 10000) 0 8 = false) (J : aH → Nat → Nat → Prop) (hJ : ∀ h a b, J h a b) (kc ks : Nat) (hkc : 1000 ≤ kc) (hks : 100000 ≤ ks) : aPairI 0 69 134 239 [.inl x1, .inl x2, .inl x3] J hF kc ks := by
  refine ⟨1, 13, _, by omega, by omega, rfl, ?_⟩
  refine ac_ink [some (.inr (.inr (some 0))), some (.inl _), some (.inl _), some (.inl _), none, none, none, none] mt_134 (Nat.le_of_ble_eq_true rfl) rfl ?_
  refine ar_ldI rfl rfl ?_
  refine ar_push rfl ?_
  refine ar_div rfl (by decide) ?_
  refine ar_svIk [some (.inr (.inr (some 0))), some (.inl _), some (.inl _), some (.inl _), some (.inl _), none, none, none] rfl rfl ?_
  refine ar_ldI rfl rfl ?_
  refine ar_push rfl ?_
  refine ar_div rfl (by decide) ?_
  refine ar_push rfl ?_
  refine ar_div rfl (by decide) ?_
  refine ar_svIk [some (.inr (.inr (some 0))), some (.inl _), some (.inl _), some (.inl _), some (.inl _), some (.inl _), none, none] rfl rfl ?_
  refine ar_ldI rfl rfl ?_
  refine ar_push rfl ?_
  refine ar_div rfl (by decide) ?_
  refine ar_svIk [some (.inr (.inr (some 0))), some (.inl _), some (.inl _), some (.inl _), some (.inl _), some (.inl _), some (.inl _), none] rfl rfl ?_
  refine ar_ldI rfl rfl ?_
  refine ar_if1f rfl h0 ?_
  refine ar_ldI rfl rfl ?_
  refine ar_inl (mc := 0) (ms := 0) rfl rfl (Nat.le_of_ble_eq_true rfl) (Nat.le_of_ble_eq_true rfl) (by omega) (by omega) ?_
  refine ac_ink [some (.inl _)] mt_175 (Nat.le_of_ble_eq_true rfl) rfl ?_
  refine ar_ldI rfl rfl ?_
  refine ar_push rfl ?_
  refine ar_push rfl ?_
  refine ar_callv rfl rfl (Nat.le_of_ble_eq_true rfl) (Nat.le_of_ble_eq_true rfl) rfl (sp_within _ _ _ _ _) ?_
  refine ar_ret rfl (bi_ret _) ?_
  show aRun _ (aCall Mt _) _ 31 (_, [_], _, _, _)
  refine ar_if1t rfl (bi_e0t hp) ?_
  refine ar_push rfl ?_
  refine ar_ret rfl rfl ?_
  refine ⟨_, 0, 0, _, rfl, Nat.zero_le _, Nat.zero_le _, rfl, ?_⟩
  refine rgen rFr_F (fun g hr => ?_)
  refine ac_ink [some (.inr (.inr (some 69))), some (.inl _), some (.inl _), some (.inl _), none, none, none] mt_239 (Nat.le_of_ble_eq_true rfl) rfl ?_
  refine ar_ldI rfl rfl ?_
  refine ar_push rfl ?_
  refine ar_div rfl (by decide) ?_
  refine ar_svIk [some (.inr (.inr (some 69))), some (.inl _), some (.inl _), some (.inl _), some (.inl _), none, none] rfl rfl ?_
  refine ar_ldI rfl rfl ?_
  refine ar_push rfl ?_
  refine ar_div rfl (by decide) ?_
  refine ar_push rfl ?_
  refine ar_div rfl (by decide) ?_
  refine ar_svIk [some (.inr (.inr (some 69))), some (.inl _), some (.inl _), some (.inl _), some (.inl _), some (.inl _), none] rfl rfl ?_
  refine ar_ldI rfl rfl ?_
  refine ar_push rfl ?_
  refine ar_div rfl (by decide) ?_
  refine ar_svIk [some (.inr (.inr (some 69))), some (.inl _), some (.inl _), some (.inl _), some (.inl _), some (.inl _), some (.inl _)] rfl rfl ?_
  refine ar_ldI rfl rfl ?_
  refine ar_if1f rfl h0 ?_
  refine ar_ldI rfl rfl ?_
  refine ar_inl (mc := 0) (ms := 0) rfl rfl (Nat.le_of_ble_eq_true rfl) (Nat.le_of_ble_eq_true rfl) (by omega) (by omega) ?_
  refine ac_ink [some (.inl _)] mt_190 (Nat.le_of_ble_eq_true rfl) rfl ?_
  refine ar_ldI rfl rfl ?_
  refine ar_push rfl ?_
  refine ar_push rfl ?_
  refine ar_callv rfl rfl (Nat.le_of_ble_eq_true rfl) (Nat.le_of_ble_eq_true rfl) rfl (sp_in _ _ _ _ _) ?_
  refine ar_ret rfl (bi_ret _) ?_
  show aRun _ (aCall Mt _) _ 31 (_, [_], _, _, _)
  refine ar_if1t rfl (bi_e0t hp) ?_
  refine ar_push rfl ?_
  refine ar_ret rfl rfl ?_
  exact ⟨rfl, hJ _ _ _⟩
set_option maxRecDepth 20000 in
set_option maxHeartbeats 8000000 in
theorem p1_10_s (x1 x2 x3 : Int32) (h0 : decide (x1 < 0) = false) (h8 : decide (((x1 / 100) - (x1 / 100) / 100 * 100) < 8) = true) (hw : wi ((x1 / 100) - (x1 / 100) / 100 * 100) 0 7 = true) (hp : wi (x1 / 10000) 0 8 = true) (hs : wi x2 0 400 = false) (J : aH → Nat → Nat → Prop) (hJ : ∀ h a b, J h a b) (kc ks : Nat) (hkc : 1000 ≤ kc) (hks : 100000 ≤ ks) : aPairI 0 69 134 239 [.inl x1, .inl x2, .inl x3] J hF kc ks := by
  refine ⟨1, 13, _, by omega, by omega, rfl, ?_⟩
  refine ac_ink [some (.inr (.inr (some 0))), some (.inl _), some (.inl _), some (.inl _), none, none, none, none] mt_134 (Nat.le_of_ble_eq_true rfl) rfl ?_
  refine ar_ldI rfl rfl ?_
  refine ar_push rfl ?_
  refine ar_div rfl (by decide) ?_
  refine ar_svIk [some (.inr (.inr (some 0))), some (.inl _), some (.inl _), some (.inl _), some (.inl _), none, none, none] rfl rfl ?_
  refine ar_ldI rfl rfl ?_
  refine ar_push rfl ?_
  refine ar_div rfl (by decide) ?_
  refine ar_push rfl ?_
  refine ar_div rfl (by decide) ?_
  refine ar_svIk [some (.inr (.inr (some 0))), some (.inl _), some (.inl _), some (.inl _), some (.inl _), some (.inl _), none, none] rfl rfl ?_
  refine ar_ldI rfl rfl ?_
  refine ar_push rfl ?_
  refine ar_div rfl (by decide) ?_
  refine ar_svIk [some (.inr (.inr (some 0))), some (.inl _), some (.inl _), some (.inl _), some (.inl _), some (.inl _), some (.inl _), none] rfl rfl ?_
  refine ar_ldI rfl rfl ?_
  refine ar_if1f rfl h0 ?_
  refine ar_ldI rfl rfl ?_
  refine ar_inl (mc := 0) (ms := 0) rfl rfl (Nat.le_of_ble_eq_true rfl) (Nat.le_of_ble_eq_true rfl) (by omega) (by omega) ?_
  refine ac_ink [some (.inl _)] mt_175 (Nat.le_of_ble_eq_true rfl) rfl ?_
  refine ar_ldI rfl rfl ?_
  refine ar_push rfl ?_
  refine ar_push rfl ?_
  refine ar_callv rfl rfl (Nat.le_of_ble_eq_true rfl) (Nat.le_of_ble_eq_true rfl) rfl (sp_within _ _ _ _ _) ?_
  refine ar_ret rfl (bi_ret _) ?_
  show aRun _ (aCall Mt _) _ 31 (_, [_], _, _, _)
  refine ar_if1f rfl (bi_e0f hp) ?_
  refine ar_ldI rfl rfl ?_
  refine ar_push rfl ?_
  refine ar_if2f rfl (lt_t h8) ?_
  refine ar_ldI rfl rfl ?_
  refine ar_push rfl ?_
  refine ar_push rfl ?_
  refine ar_callv rfl rfl (Nat.le_of_ble_eq_true rfl) (Nat.le_of_ble_eq_true rfl) rfl (sp_within _ _ _ _ _) ?_
  refine ar_if1f rfl (bi_n0f hs) ?_
  refine ar_push rfl ?_
  refine ar_ret rfl rfl ?_
  refine ⟨_, 0, 0, _, rfl, Nat.zero_le _, Nat.zero_le _, rfl, ?_⟩
  refine rgen rFr_F (fun g hr => ?_)
  refine ac_ink [some (.inr (.inr (some 69))), some (.inl _), some (.inl _), some (.inl _), none, none, none] mt_239 (Nat.le_of_ble_eq_true rfl) rfl ?_
  refine ar_ldI rfl rfl ?_
  refine ar_push rfl ?_
  refine ar_div rfl (by decide) ?_
  refine ar_svIk [some (.inr (.inr (some 69))), some (.inl _), some (.inl _), some (.inl _), some (.inl _), none, none] rfl rfl ?_
  refine ar_ldI rfl rfl ?_
  refine ar_push rfl ?_
  refine ar_div rfl (by decide) ?_
  refine ar_push rfl ?_
  refine ar_div rfl (by decide) ?_
  refine ar_svIk [some (.inr (.inr (some 69))), some (.inl _), some (.inl _), some (.inl _), some (.inl _), some (.inl _), none] rfl rfl ?_
  refine ar_ldI rfl rfl ?_
  refine ar_push rfl ?_
  refine ar_div rfl (by decide) ?_
  refine ar_svIk [some (.inr (.inr (some 69))), some (.inl _), some (.inl _), some (.inl _), some (.inl _), some (.inl _), some (.inl _)] rfl rfl ?_
  refine ar_ldI rfl rfl ?_
  refine ar_if1f rfl h0 ?_
  refine ar_ldI rfl rfl ?_
  refine ar_inl (mc := 0) (ms := 0) rfl rfl (Nat.le_of_ble_eq_true rfl) (Nat.le_of_ble_eq_true rfl) (by omega) (by omega) ?_
  refine ac_ink [some (.inl _)] mt_190 (Nat.le_of_ble_eq_true rfl) rfl ?_
  refine ar_ldI rfl rfl ?_
  refine ar_push rfl ?_
  refine ar_push rfl ?_
  refine ar_callv rfl rfl (Nat.le_of_ble_eq_true rfl) (Nat.le_of_ble_eq_true rfl) rfl (sp_in _ _ _ _ _) ?_
  refine ar_ret rfl (bi_ret _) ?_
  show aRun _ (aCall Mt _) _ 31 (_, [_], _, _, _)
  refine ar_if1f rfl (bi_e0f hp) ?_
  refine ar_ldI rfl rfl ?_
  refine ar_push rfl ?_
  refine ar_push rfl ?_
  refine ar_callv rfl rfl (Nat.le_of_ble_eq_true rfl) (Nat.le_of_ble_eq_true rfl) rfl (sp_in _ _ _ _ _) ?_
  refine ar_if1f rfl (bi_e0f hw) ?_
  refine ar_ldI rfl rfl ?_
  refine ar_push rfl ?_
  refine ar_if2 rfl (fun c101 => ?_) (fun c101 => ?_)
  · refine ar_ldI rfl rfl ?_
    refine ar_push rfl ?_
    refine ar_push rfl ?_
    refine ar_callv rfl rfl (Nat.le_of_ble_eq_true rfl) (Nat.le_of_ble_eq_true rfl) rfl (sp_in _ _ _ _ _) ?_
    refine ar_if1f rfl (bi_n0f hs) ?_
    refine ar_push rfl ?_
    refine ar_ret rfl rfl ?_
    exact ⟨rfl, hJ _ _ _⟩
  · refine ar_ldI rfl rfl ?_
    refine ar_push rfl ?_
    refine ar_if2 rfl (fun c102 => ?_) (fun c102 => ?_)
    · refine ar_push rfl ?_
      refine ar_ret rfl rfl ?_
      exact ⟨rfl, hJ _ _ _⟩
    · refine ar_ldA rfl rfl ?_
      refine ar_get rfl (hr.at 69 (by decide) (by decide) rfl) rfl ?_
      refine ar_ldI rfl rfl ?_
      refine ar_ald rfl (hr.at 91 (by decide) (by decide) rfl) (rm_ix h0 (le_f c102)).1 (rep_get (rm_ix h0 (le_f c102)).2) ?_
      refine ar_if1t rfl (by decide) ?_
      refine ar_push rfl ?_
      refine ar_ret rfl rfl ?_
      exact ⟨rfl, hJ _ _ _⟩
set_option maxRecDepth 20000 in
set_option maxHeartbeats 8000000 in
theorem p1_10_r (x1 x2 x3 : Int32) (h0 : decide (x1 < 0) = false) (h8 : decide (((x1 / 100) - (x1 / 100) / 100 * 100) < 8) = true) (hw : wi ((x1 / 100) - (x1 / 100) / 100 * 100) 0 7 = true) (hp : wi (x1 / 10000) 0 8 = true) (hs : wi x2 0 400 = true) (h9 : decide ((x1 - x1 / 100 * 100) = 99) = false) (J : aH → Nat → Nat → Prop) (hJ : ∀ h a b, J h a b) (kc ks : Nat) (hkc : 1000 ≤ kc) (hks : 100000 ≤ ks) : aPairI 0 69 134 239 [.inl x1, .inl x2, .inl x3] J hF kc ks := by
  refine ⟨1, 13, _, by omega, by omega, rfl, ?_⟩
  refine ac_ink [some (.inr (.inr (some 0))), some (.inl _), some (.inl _), some (.inl _), none, none, none, none] mt_134 (Nat.le_of_ble_eq_true rfl) rfl ?_
  refine ar_ldI rfl rfl ?_
  refine ar_push rfl ?_
  refine ar_div rfl (by decide) ?_
  refine ar_svIk [some (.inr (.inr (some 0))), some (.inl _), some (.inl _), some (.inl _), some (.inl _), none, none, none] rfl rfl ?_
  refine ar_ldI rfl rfl ?_
  refine ar_push rfl ?_
  refine ar_div rfl (by decide) ?_
  refine ar_push rfl ?_
  refine ar_div rfl (by decide) ?_
  refine ar_svIk [some (.inr (.inr (some 0))), some (.inl _), some (.inl _), some (.inl _), some (.inl _), some (.inl _), none, none] rfl rfl ?_
  refine ar_ldI rfl rfl ?_
  refine ar_push rfl ?_
  refine ar_div rfl (by decide) ?_
  refine ar_svIk [some (.inr (.inr (some 0))), some (.inl _), some (.inl _), some (.inl _), some (.inl _), some (.inl _), some (.inl _), none] rfl rfl ?_
  refine ar_ldI rfl rfl ?_
  refine ar_if1f rfl h0 ?_
  refine ar_ldI rfl rfl ?_
  refine ar_inl (mc := 0) (ms := 0) rfl rfl (Nat.le_of_ble_eq_true rfl) (Nat.le_of_ble_eq_true rfl) (by omega) (by omega) ?_
  refine ac_ink [some (.inl _)] mt_175 (Nat.le_of_ble_eq_true rfl) rfl ?_
  refine ar_ldI rfl rfl ?_
  refine ar_push rfl ?_
  refine ar_push rfl ?_
  refine ar_callv rfl rfl (Nat.le_of_ble_eq_true rfl) (Nat.le_of_ble_eq_true rfl) rfl (sp_within _ _ _ _ _) ?_
  refine ar_ret rfl (bi_ret _) ?_
  show aRun _ (aCall Mt _) _ 31 (_, [_], _, _, _)
  refine ar_if1f rfl (bi_e0f hp) ?_
  refine ar_ldI rfl rfl ?_
  refine ar_push rfl ?_
  refine ar_if2f rfl (lt_t h8) ?_
  refine ar_ldI rfl rfl ?_
  refine ar_push rfl ?_
  refine ar_push rfl ?_
  refine ar_callv rfl rfl (Nat.le_of_ble_eq_true rfl) (Nat.le_of_ble_eq_true rfl) rfl (sp_within _ _ _ _ _) ?_
  refine ar_if1t rfl (bi_n0t hs) ?_
  refine ar_ldI rfl rfl ?_
  refine ar_push rfl ?_
  refine ar_if2f rfl h9 ?_
  refine ar_ldA rfl rfl ?_
  refine ar_get rfl rfl rfl ?_
  refine ar_ldI rfl rfl ?_
  refine ar_inl (mc := 0) (ms := 0) rfl (rcv_of rfl) (Nat.le_of_ble_eq_true rfl) (Nat.le_of_ble_eq_true rfl) (by omega) (by omega) ?_
  refine ac_ink [some (.inr (.inr (some 15))), some (.inl _)] mt_9 (Nat.le_of_ble_eq_true rfl) rfl ?_
  refine ar_ldI rfl rfl ?_
  refine ar_push rfl ?_
  refine ar_push rfl ?_
  refine ar_callv rfl rfl (Nat.le_of_ble_eq_true rfl) (Nat.le_of_ble_eq_true rfl) rfl (sp_within _ _ _ _ _) ?_
  refine ar_eqB rfl (fun c101 => ?_) (fun c101 => ?_)
  · refine ar_push rfl ?_
    refine ar_ret rfl rfl ?_
    show aRun _ (aCall Mt _) _ 70 (_, [_], _, _, _)
    refine ar_if1f rfl (by decide) ?_
    refine ar_push rfl ?_
    refine ar_ret rfl rfl ?_
    refine ⟨_, 0, 0, _, rfl, Nat.zero_le _, Nat.zero_le _, rfl, ?_⟩
    refine rgen rFr_F (fun g hr => ?_)
    refine ac_ink [some (.inr (.inr (some 69))), some (.inl _), some (.inl _), some (.inl _), none, none, none] mt_239 (Nat.le_of_ble_eq_true rfl) rfl ?_
    refine ar_ldI rfl rfl ?_
    refine ar_push rfl ?_
    refine ar_div rfl (by decide) ?_
    refine ar_svIk [some (.inr (.inr (some 69))), some (.inl _), some (.inl _), some (.inl _), some (.inl _), none, none] rfl rfl ?_
    refine ar_ldI rfl rfl ?_
    refine ar_push rfl ?_
    refine ar_div rfl (by decide) ?_
    refine ar_push rfl ?_
    refine ar_div rfl (by decide) ?_
    refine ar_svIk [some (.inr (.inr (some 69))), some (.inl _), some (.inl _), some (.inl _), some (.inl _), some (.inl _), none] rfl rfl ?_
    refine ar_ldI rfl rfl ?_
    refine ar_push rfl ?_
    refine ar_div rfl (by decide) ?_
    refine ar_svIk [some (.inr (.inr (some 69))), some (.inl _), some (.inl _), some (.inl _), some (.inl _), some (.inl _), some (.inl _)] rfl rfl ?_
    refine ar_ldI rfl rfl ?_
    refine ar_if1f rfl h0 ?_
    refine ar_ldI rfl rfl ?_
    refine ar_inl (mc := 0) (ms := 0) rfl rfl (Nat.le_of_ble_eq_true rfl) (Nat.le_of_ble_eq_true rfl) (by omega) (by omega) ?_
    refine ac_ink [some (.inl _)] mt_190 (Nat.le_of_ble_eq_true rfl) rfl ?_
    refine ar_ldI rfl rfl ?_
    refine ar_push rfl ?_
    refine ar_push rfl ?_
    refine ar_callv rfl rfl (Nat.le_of_ble_eq_true rfl) (Nat.le_of_ble_eq_true rfl) rfl (sp_in _ _ _ _ _) ?_
    refine ar_ret rfl (bi_ret _) ?_
    show aRun _ (aCall Mt _) _ 31 (_, [_], _, _, _)
    refine ar_if1f rfl (bi_e0f hp) ?_
    refine ar_ldI rfl rfl ?_
    refine ar_push rfl ?_
    refine ar_push rfl ?_
    refine ar_callv rfl rfl (Nat.le_of_ble_eq_true rfl) (Nat.le_of_ble_eq_true rfl) rfl (sp_in _ _ _ _ _) ?_
    refine ar_if1f rfl (bi_e0f hw) ?_
    refine ar_ldI rfl rfl ?_
    refine ar_push rfl ?_
    refine ar_if2f rfl h9 ?_
    refine ar_ldI rfl rfl ?_
    refine ar_push rfl ?_
    refine ar_if2 rfl (fun c102 => ?_) (fun c102 => ?_)
    · refine ar_push rfl ?_
      refine ar_ret rfl rfl ?_
      exact ⟨rfl, hJ _ _ _⟩
    · refine ar_ldA rfl rfl ?_
      refine ar_get rfl (hr.at 69 (by decide) (by decide) rfl) rfl ?_
      refine ar_ldI rfl rfl ?_
      refine ar_ald rfl (hr.at 91 (by decide) (by decide) rfl) (rm_ix h0 (le_f c102)).1 (rep_get (rm_ix h0 (le_f c102)).2) ?_
      refine ar_if1t rfl (by decide) ?_
      refine ar_push rfl ?_
      refine ar_ret rfl rfl ?_
      exact ⟨rfl, hJ _ _ _⟩
  · refine ar_ldA rfl rfl ?_
    refine ar_get rfl rfl rfl ?_
    refine ar_ldI rfl rfl ?_
    refine ar_ald rfl rfl (wi_ix (m := 20) c101 (by decide)).1 (rep_get (wi_ix (m := 20) c101 (by decide)).2) ?_
    refine ar_push rfl ?_
    refine ar_if2t rfl (by decide) ?_
    refine ar_push rfl ?_
    refine ar_ret rfl rfl ?_
    show aRun _ (aCall Mt _) _ 70 (_, [_], _, _, _)
    refine ar_if1f rfl (by decide) ?_
    refine ar_push rfl ?_
    refine ar_ret rfl rfl ?_
    refine ⟨_, 0, 0, _, rfl, Nat.zero_le _, Nat.zero_le _, rfl, ?_⟩
    refine rgen rFr_F (fun g hr => ?_)
    refine ac_ink [some (.inr (.inr (some 69))), some (.inl _), some (.inl _), some (.inl _), none, none, none] mt_239 (Nat.le_of_ble_eq_true rfl) rfl ?_
    refine ar_ldI rfl rfl ?_
    refine ar_push rfl ?_
    refine ar_div rfl (by decide) ?_
    refine ar_svIk [some (.inr (.inr (some 69))), some (.inl _), some (.inl _), some (.inl _), some (.inl _), none, none] rfl rfl ?_
    refine ar_ldI rfl rfl ?_
    refine ar_push rfl ?_
    refine ar_div rfl (by decide) ?_
    refine ar_push rfl ?_
    refine ar_div rfl (by decide) ?_
    refine ar_svIk [some (.inr (.inr (some 69))), some (.inl _), some (.inl _), some (.inl _), some (.inl _), some (.inl _), none] rfl rfl ?_
    refine ar_ldI rfl rfl ?_
    refine ar_push rfl ?_
    refine ar_div rfl (by decide) ?_
    refine ar_svIk [some (.inr (.inr (some 69))), some (.inl _), some (.inl _), some (.inl _), some (.inl _), some (.inl _), some (.inl _)] rfl rfl ?_
    refine ar_ldI rfl rfl ?_
    refine ar_if1f rfl h0 ?_
    refine ar_ldI rfl rfl ?_
    refine ar_inl (mc := 0) (ms := 0) rfl rfl (Nat.le_of_ble_eq_true rfl) (Nat.le_of_ble_eq_true rfl) (by omega) (by omega) ?_
    refine ac_ink [some (.inl _)] mt_190 (Nat.le_of_ble_eq_true rfl) rfl ?_
    refine ar_ldI rfl rfl ?_
    refine ar_push rfl ?_
    refine ar_push rfl ?_
    refine ar_callv rfl rfl (Nat.le_of_ble_eq_true rfl) (Nat.le_of_ble_eq_true rfl) rfl (sp_in _ _ _ _ _) ?_
    refine ar_ret rfl (bi_ret _) ?_
    show aRun _ (aCall Mt _) _ 31 (_, [_], _, _, _)
    refine ar_if1f rfl (bi_e0f hp) ?_
    refine ar_ldI rfl rfl ?_
    refine ar_push rfl ?_
    refine ar_push rfl ?_
    refine ar_callv rfl rfl (Nat.le_of_ble_eq_true rfl) (Nat.le_of_ble_eq_true rfl) rfl (sp_in _ _ _ _ _) ?_
    refine ar_if1f rfl (bi_e0f hw) ?_
    refine ar_ldI rfl rfl ?_
    refine ar_push rfl ?_
    refine ar_if2f rfl h9 ?_
    refine ar_ldI rfl rfl ?_
    refine ar_push rfl ?_
    refine ar_if2 rfl (fun c103 => ?_) (fun c103 => ?_)
    · refine ar_push rfl ?_
      refine ar_ret rfl rfl ?_
      exact ⟨rfl, hJ _ _ _⟩
    · refine ar_ldA rfl rfl ?_
      refine ar_get rfl (hr.at 69 (by decide) (by decide) rfl) rfl ?_
      refine ar_ldI rfl rfl ?_
      refine ar_ald rfl (hr.at 91 (by decide) (by decide) rfl) (wi_ix (m := 20) c101 (by decide)).1 (rep_get (wi_ix (m := 20) c101 (by decide)).2) ?_
      refine ar_if1t rfl (by decide) ?_
      refine ar_push rfl ?_
      refine ar_ret rfl rfl ?_
      exact ⟨rfl, hJ _ _ _⟩
end P1C
