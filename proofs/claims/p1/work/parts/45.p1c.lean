/-! THE FIRST CALL on fresh objects, printed by program -/
section P1C
set_option maxRecDepth 20000 in
set_option maxHeartbeats 4000000 in
theorem p1_2 (x1 : Int32) (x2 : Int32) (J : aH → Nat → Nat → Prop) (hJ : ∀ h a b, J h a b) (kc ks : Nat) (hkc : 1000 ≤ kc) (hks : 100000 ≤ ks) : aPairI 0 69 126 194 [.inl x1, .inl x2] J hF kc ks := by
  refine ⟨0, 0, _, by omega, by omega, rfl, ?_⟩
  refine ac_ink [some (.inr (.inr (some 0))), some (.inl _), some (.inl _), none] mt_126 (Nat.le_of_ble_eq_true rfl) rfl ?_
  refine ar_ldA rfl rfl ?_
  refine ar_get rfl rfl rfl ?_
  refine ar_ldI rfl rfl ?_
  refine ar_inl (mc := 0) (ms := 0) rfl (rcv_of rfl) (Nat.le_of_ble_eq_true rfl) (Nat.le_of_ble_eq_true rfl) (by omega) (by omega) ?_
  refine ac_ink [some (.inr (.inr (some 1))), some (.inl _)] mt_60 (Nat.le_of_ble_eq_true rfl) rfl ?_
  refine ar_ldI rfl rfl ?_
  refine ar_if1 rfl (fun c1 => ?_) (fun c1 => ?_)
  · refine ar_push rfl ?_
    refine ar_ret rfl rfl ?_
    show aRun _ (aCall Mt _) _ 8 (_, [_], _, _, _)
    refine ar_svAk [some (.inr (.inr (some 0))), some (.inl _), some (.inl _), some (.inr (.inr none))] rfl rfl ?_
    refine ar_ldA rfl rfl ?_
    refine ar_nulN rfl ?_
    refine ar_push rfl ?_
    refine ar_ret rfl rfl ?_
    refine ⟨_, 0, 0, _, rfl, Nat.zero_le _, Nat.zero_le _, rfl, ?_⟩
    refine rgen rFr_F (fun g hr => ?_)
    refine ac_ink [some (.inr (.inr (some 69))), some (.inl _), some (.inl _)] mt_194 (Nat.le_of_ble_eq_true rfl) rfl ?_
    refine ar_ldA rfl rfl ?_
    refine ar_ldI rfl rfl ?_
    refine ar_inl (mc := 0) (ms := 0) rfl (rcv_of (hr.at 69 (by decide) (by decide) rfl)) (Nat.le_of_ble_eq_true rfl) (Nat.le_of_ble_eq_true rfl) (by omega) (by omega) ?_
    refine ac_ink [some (.inr (.inr (some 69))), some (.inl _)] mt_187 (Nat.le_of_ble_eq_true rfl) rfl ?_
    refine ar_ldI rfl rfl ?_
    refine ar_push rfl ?_
    refine ar_ldA rfl rfl ?_
    refine ar_get rfl (hr.at 69 (by decide) (by decide) rfl) rfl ?_
    refine ar_push rfl ?_
    refine ar_bink (z := (-1)) rfl (by decide) ?_
    refine ar_callv rfl rfl (Nat.le_of_ble_eq_true rfl) (Nat.le_of_ble_eq_true rfl) rfl (sp_in _ _ _ _ _) ?_
    refine ar_ret rfl (bi_ret _) ?_
    show aRun _ (aCall Mt _) _ 5 (_, [_], _, _, _)
    refine ar_if1f rfl (bi_n0f (wi_n1 _)) ?_
    refine ar_push rfl ?_
    refine ar_ret rfl rfl ?_
    exact ⟨rfl, hJ _ _ _⟩
  · refine ar_ldI rfl rfl ?_
    refine ar_ldA rfl rfl ?_
    refine ar_get rfl rfl rfl ?_
    refine ar_if2t rfl (lt_f c1) ?_
    refine ar_push rfl ?_
    refine ar_ret rfl rfl ?_
    show aRun _ (aCall Mt _) _ 8 (_, [_], _, _, _)
    refine ar_svAk [some (.inr (.inr (some 0))), some (.inl _), some (.inl _), some (.inr (.inr none))] rfl rfl ?_
    refine ar_ldA rfl rfl ?_
    refine ar_nulN rfl ?_
    refine ar_push rfl ?_
    refine ar_ret rfl rfl ?_
    refine ⟨_, 0, 0, _, rfl, Nat.zero_le _, Nat.zero_le _, rfl, ?_⟩
    refine rgen rFr_F (fun g hr => ?_)
    refine ac_ink [some (.inr (.inr (some 69))), some (.inl _), some (.inl _)] mt_194 (Nat.le_of_ble_eq_true rfl) rfl ?_
    refine ar_ldA rfl rfl ?_
    refine ar_ldI rfl rfl ?_
    refine ar_inl (mc := 0) (ms := 0) rfl (rcv_of (hr.at 69 (by decide) (by decide) rfl)) (Nat.le_of_ble_eq_true rfl) (Nat.le_of_ble_eq_true rfl) (by omega) (by omega) ?_
    refine ac_ink [some (.inr (.inr (some 69))), some (.inl _)] mt_187 (Nat.le_of_ble_eq_true rfl) rfl ?_
    refine ar_ldI rfl rfl ?_
    refine ar_push rfl ?_
    refine ar_ldA rfl rfl ?_
    refine ar_get rfl (hr.at 69 (by decide) (by decide) rfl) rfl ?_
    refine ar_push rfl ?_
    refine ar_bink (z := (-1)) rfl (by decide) ?_
    refine ar_callv rfl rfl (Nat.le_of_ble_eq_true rfl) (Nat.le_of_ble_eq_true rfl) rfl (sp_in _ _ _ _ _) ?_
    refine ar_ret rfl (bi_ret _) ?_
    show aRun _ (aCall Mt _) _ 5 (_, [_], _, _, _)
    refine ar_if1f rfl (bi_n0f (wi_n1 _)) ?_
    refine ar_push rfl ?_
    refine ar_ret rfl rfl ?_
    exact ⟨rfl, hJ _ _ _⟩

set_option maxRecDepth 20000 in
set_option maxHeartbeats 4000000 in
theorem p1_3 (x1 : Int32) (x2 : Int32) (x3 : Int32) (J : aH → Nat → Nat → Prop) (hJ : ∀ h a b, J h a b) (kc ks : Nat) (hkc : 1000 ≤ kc) (hks : 100000 ≤ ks) : aPairI 0 69 127 202 [.inl x1, .inl x2, .inl x3] J hF kc ks := by
  refine ⟨0, 0, _, by omega, by omega, rfl, ?_⟩
  refine ac_ink [some (.inr (.inr (some 0))), some (.inl _), some (.inl _), some (.inl _), none] mt_127 (Nat.le_of_ble_eq_true rfl) rfl ?_
  refine ar_ldA rfl rfl ?_
  refine ar_get rfl rfl rfl ?_
  refine ar_ldI rfl rfl ?_
  refine ar_inl (mc := 0) (ms := 0) rfl (rcv_of rfl) (Nat.le_of_ble_eq_true rfl) (Nat.le_of_ble_eq_true rfl) (by omega) (by omega) ?_
  refine ac_ink [some (.inr (.inr (some 1))), some (.inl _)] mt_60 (Nat.le_of_ble_eq_true rfl) rfl ?_
  refine ar_ldI rfl rfl ?_
  refine ar_if1 rfl (fun c1 => ?_) (fun c1 => ?_)
  · refine ar_push rfl ?_
    refine ar_ret rfl rfl ?_
    show aRun _ (aCall Mt _) _ 8 (_, [_], _, _, _)
    refine ar_svAk [some (.inr (.inr (some 0))), some (.inl _), some (.inl _), some (.inl _), some (.inr (.inr none))] rfl rfl ?_
    refine ar_ldA rfl rfl ?_
    refine ar_nulN rfl ?_
    refine ar_push rfl ?_
    refine ar_ret rfl rfl ?_
    refine ⟨_, 0, 0, _, rfl, Nat.zero_le _, Nat.zero_le _, rfl, ?_⟩
    refine rgen rFr_F (fun g hr => ?_)
    refine ac_ink [some (.inr (.inr (some 69))), some (.inl _), some (.inl _), some (.inl _), none] mt_202 (Nat.le_of_ble_eq_true rfl) rfl ?_
    refine ar_ldA rfl rfl ?_
    refine ar_ldI rfl rfl ?_
    refine ar_inl (mc := 0) (ms := 0) rfl (rcv_of (hr.at 69 (by decide) (by decide) rfl)) (Nat.le_of_ble_eq_true rfl) (Nat.le_of_ble_eq_true rfl) (by omega) (by omega) ?_
    refine ac_ink [some (.inr (.inr (some 69))), some (.inl _)] mt_187 (Nat.le_of_ble_eq_true rfl) rfl ?_
    refine ar_ldI rfl rfl ?_
    refine ar_push rfl ?_
    refine ar_ldA rfl rfl ?_
    refine ar_get rfl (hr.at 69 (by decide) (by decide) rfl) rfl ?_
    refine ar_push rfl ?_
    refine ar_bink (z := (-1)) rfl (by decide) ?_
    refine ar_callv rfl rfl (Nat.le_of_ble_eq_true rfl) (Nat.le_of_ble_eq_true rfl) rfl (sp_in _ _ _ _ _) ?_
    refine ar_ret rfl (bi_ret _) ?_
    show aRun _ (aCall Mt _) _ 5 (_, [_], _, _, _)
    refine ar_if1t rfl (bi_e0t (wi_n1 _)) ?_
    refine ar_push rfl ?_
    refine ar_ret rfl rfl ?_
    exact ⟨rfl, hJ _ _ _⟩
  · refine ar_ldI rfl rfl ?_
    refine ar_ldA rfl rfl ?_
    refine ar_get rfl rfl rfl ?_
    refine ar_if2t rfl (lt_f c1) ?_
    refine ar_push rfl ?_
    refine ar_ret rfl rfl ?_
    show aRun _ (aCall Mt _) _ 8 (_, [_], _, _, _)
    refine ar_svAk [some (.inr (.inr (some 0))), some (.inl _), some (.inl _), some (.inl _), some (.inr (.inr none))] rfl rfl ?_
    refine ar_ldA rfl rfl ?_
    refine ar_nulN rfl ?_
    refine ar_push rfl ?_
    refine ar_ret rfl rfl ?_
    refine ⟨_, 0, 0, _, rfl, Nat.zero_le _, Nat.zero_le _, rfl, ?_⟩
    refine rgen rFr_F (fun g hr => ?_)
    refine ac_ink [some (.inr (.inr (some 69))), some (.inl _), some (.inl _), some (.inl _), none] mt_202 (Nat.le_of_ble_eq_true rfl) rfl ?_
    refine ar_ldA rfl rfl ?_
    refine ar_ldI rfl rfl ?_
    refine ar_inl (mc := 0) (ms := 0) rfl (rcv_of (hr.at 69 (by decide) (by decide) rfl)) (Nat.le_of_ble_eq_true rfl) (Nat.le_of_ble_eq_true rfl) (by omega) (by omega) ?_
    refine ac_ink [some (.inr (.inr (some 69))), some (.inl _)] mt_187 (Nat.le_of_ble_eq_true rfl) rfl ?_
    refine ar_ldI rfl rfl ?_
    refine ar_push rfl ?_
    refine ar_ldA rfl rfl ?_
    refine ar_get rfl (hr.at 69 (by decide) (by decide) rfl) rfl ?_
    refine ar_push rfl ?_
    refine ar_bink (z := (-1)) rfl (by decide) ?_
    refine ar_callv rfl rfl (Nat.le_of_ble_eq_true rfl) (Nat.le_of_ble_eq_true rfl) rfl (sp_in _ _ _ _ _) ?_
    refine ar_ret rfl (bi_ret _) ?_
    show aRun _ (aCall Mt _) _ 5 (_, [_], _, _, _)
    refine ar_if1t rfl (bi_e0t (wi_n1 _)) ?_
    refine ar_push rfl ?_
    refine ar_ret rfl rfl ?_
    exact ⟨rfl, hJ _ _ _⟩

set_option maxRecDepth 20000 in
set_option maxHeartbeats 4000000 in
theorem p1_4 (x1 : Int32) (x2 : Int32) (x3 : Int32) (x4 : Int32) (J : aH → Nat → Nat → Prop) (hJ : ∀ h a b, J h a b) (kc ks : Nat) (hkc : 1000 ≤ kc) (hks : 100000 ≤ ks) : aPairI 0 69 128 209 [.inl x1, .inl x2, .inl x3, .inl x4] J hF kc ks := by
  refine ⟨0, 0, _, by omega, by omega, rfl, ?_⟩
  refine ac_ink [some (.inr (.inr (some 0))), some (.inl _), some (.inl _), some (.inl _), some (.inl _), none, none] mt_128 (Nat.le_of_ble_eq_true rfl) rfl ?_
  refine ar_ldA rfl rfl ?_
  refine ar_get rfl rfl rfl ?_
  refine ar_ldI rfl rfl ?_
  refine ar_inl (mc := 0) (ms := 0) rfl (rcv_of rfl) (Nat.le_of_ble_eq_true rfl) (Nat.le_of_ble_eq_true rfl) (by omega) (by omega) ?_
  refine ac_ink [some (.inr (.inr (some 1))), some (.inl _)] mt_60 (Nat.le_of_ble_eq_true rfl) rfl ?_
  refine ar_ldI rfl rfl ?_
  refine ar_if1 rfl (fun c1 => ?_) (fun c1 => ?_)
  · refine ar_push rfl ?_
    refine ar_ret rfl rfl ?_
    show aRun _ (aCall Mt _) _ 8 (_, [_], _, _, _)
    refine ar_svAk [some (.inr (.inr (some 0))), some (.inl _), some (.inl _), some (.inl _), some (.inl _), some (.inr (.inr none)), none] rfl rfl ?_
    refine ar_ldA rfl rfl ?_
    refine ar_nulN rfl ?_
    refine ar_push rfl ?_
    refine ar_ret rfl rfl ?_
    refine ⟨_, 0, 0, _, rfl, Nat.zero_le _, Nat.zero_le _, rfl, ?_⟩
    refine rgen rFr_F (fun g hr => ?_)
    refine ac_ink [some (.inr (.inr (some 69))), some (.inl _), some (.inl _), some (.inl _), some (.inl _), none] mt_209 (Nat.le_of_ble_eq_true rfl) rfl ?_
    refine ar_ldA rfl rfl ?_
    refine ar_ldI rfl rfl ?_
    refine ar_inl (mc := 0) (ms := 0) rfl (rcv_of (hr.at 69 (by decide) (by decide) rfl)) (Nat.le_of_ble_eq_true rfl) (Nat.le_of_ble_eq_true rfl) (by omega) (by omega) ?_
    refine ac_ink [some (.inr (.inr (some 69))), some (.inl _)] mt_187 (Nat.le_of_ble_eq_true rfl) rfl ?_
    refine ar_ldI rfl rfl ?_
    refine ar_push rfl ?_
    refine ar_ldA rfl rfl ?_
    refine ar_get rfl (hr.at 69 (by decide) (by decide) rfl) rfl ?_
    refine ar_push rfl ?_
    refine ar_bink (z := (-1)) rfl (by decide) ?_
    refine ar_callv rfl rfl (Nat.le_of_ble_eq_true rfl) (Nat.le_of_ble_eq_true rfl) rfl (sp_in _ _ _ _ _) ?_
    refine ar_ret rfl (bi_ret _) ?_
    show aRun _ (aCall Mt _) _ 5 (_, [_], _, _, _)
    refine ar_if1t rfl (bi_e0t (wi_n1 _)) ?_
    refine ar_push rfl ?_
    refine ar_ret rfl rfl ?_
    exact ⟨rfl, hJ _ _ _⟩
  · refine ar_ldI rfl rfl ?_
    refine ar_ldA rfl rfl ?_
    refine ar_get rfl rfl rfl ?_
    refine ar_if2t rfl (lt_f c1) ?_
    refine ar_push rfl ?_
    refine ar_ret rfl rfl ?_
    show aRun _ (aCall Mt _) _ 8 (_, [_], _, _, _)
    refine ar_svAk [some (.inr (.inr (some 0))), some (.inl _), some (.inl _), some (.inl _), some (.inl _), some (.inr (.inr none)), none] rfl rfl ?_
    refine ar_ldA rfl rfl ?_
    refine ar_nulN rfl ?_
    refine ar_push rfl ?_
    refine ar_ret rfl rfl ?_
    refine ⟨_, 0, 0, _, rfl, Nat.zero_le _, Nat.zero_le _, rfl, ?_⟩
    refine rgen rFr_F (fun g hr => ?_)
    refine ac_ink [some (.inr (.inr (some 69))), some (.inl _), some (.inl _), some (.inl _), some (.inl _), none] mt_209 (Nat.le_of_ble_eq_true rfl) rfl ?_
    refine ar_ldA rfl rfl ?_
    refine ar_ldI rfl rfl ?_
    refine ar_inl (mc := 0) (ms := 0) rfl (rcv_of (hr.at 69 (by decide) (by decide) rfl)) (Nat.le_of_ble_eq_true rfl) (Nat.le_of_ble_eq_true rfl) (by omega) (by omega) ?_
    refine ac_ink [some (.inr (.inr (some 69))), some (.inl _)] mt_187 (Nat.le_of_ble_eq_true rfl) rfl ?_
    refine ar_ldI rfl rfl ?_
    refine ar_push rfl ?_
    refine ar_ldA rfl rfl ?_
    refine ar_get rfl (hr.at 69 (by decide) (by decide) rfl) rfl ?_
    refine ar_push rfl ?_
    refine ar_bink (z := (-1)) rfl (by decide) ?_
    refine ar_callv rfl rfl (Nat.le_of_ble_eq_true rfl) (Nat.le_of_ble_eq_true rfl) rfl (sp_in _ _ _ _ _) ?_
    refine ar_ret rfl (bi_ret _) ?_
    show aRun _ (aCall Mt _) _ 5 (_, [_], _, _, _)
    refine ar_if1t rfl (bi_e0t (wi_n1 _)) ?_
    refine ar_push rfl ?_
    refine ar_ret rfl rfl ?_
    exact ⟨rfl, hJ _ _ _⟩

set_option maxRecDepth 20000 in
set_option maxHeartbeats 4000000 in
theorem p1_5 (x1 : Int32) (x2 : Int32) (x3 : Int32) (J : aH → Nat → Nat → Prop) (hJ : ∀ h a b, J h a b) (kc ks : Nat) (hkc : 1000 ≤ kc) (hks : 100000 ≤ ks) : aPairI 0 69 129 211 [.inl x1, .inl x2, .inl x3] J hF kc ks := by
  refine ⟨0, 0, _, by omega, by omega, rfl, ?_⟩
  refine ac_ink [some (.inr (.inr (some 0))), some (.inl _), some (.inl _), some (.inl _), none, none] mt_129 (Nat.le_of_ble_eq_true rfl) rfl ?_
  refine ar_ldA rfl rfl ?_
  refine ar_get rfl rfl rfl ?_
  refine ar_ldI rfl rfl ?_
  refine ar_inl (mc := 0) (ms := 0) rfl (rcv_of rfl) (Nat.le_of_ble_eq_true rfl) (Nat.le_of_ble_eq_true rfl) (by omega) (by omega) ?_
  refine ac_ink [some (.inr (.inr (some 1))), some (.inl _)] mt_60 (Nat.le_of_ble_eq_true rfl) rfl ?_
  refine ar_ldI rfl rfl ?_
  refine ar_if1 rfl (fun c1 => ?_) (fun c1 => ?_)
  · refine ar_push rfl ?_
    refine ar_ret rfl rfl ?_
    show aRun _ (aCall Mt _) _ 8 (_, [_], _, _, _)
    refine ar_svAk [some (.inr (.inr (some 0))), some (.inl _), some (.inl _), some (.inl _), some (.inr (.inr none)), none] rfl rfl ?_
    refine ar_ldA rfl rfl ?_
    refine ar_nulN rfl ?_
    refine ar_push rfl ?_
    refine ar_ret rfl rfl ?_
    refine ⟨_, 0, 0, _, rfl, Nat.zero_le _, Nat.zero_le _, rfl, ?_⟩
    refine rgen rFr_F (fun g hr => ?_)
    refine ac_ink [some (.inr (.inr (some 69))), some (.inl _), some (.inl _), some (.inl _), none] mt_211 (Nat.le_of_ble_eq_true rfl) rfl ?_
    refine ar_ldA rfl rfl ?_
    refine ar_ldI rfl rfl ?_
    refine ar_inl (mc := 0) (ms := 0) rfl (rcv_of (hr.at 69 (by decide) (by decide) rfl)) (Nat.le_of_ble_eq_true rfl) (Nat.le_of_ble_eq_true rfl) (by omega) (by omega) ?_
    refine ac_ink [some (.inr (.inr (some 69))), some (.inl _)] mt_187 (Nat.le_of_ble_eq_true rfl) rfl ?_
    refine ar_ldI rfl rfl ?_
    refine ar_push rfl ?_
    refine ar_ldA rfl rfl ?_
    refine ar_get rfl (hr.at 69 (by decide) (by decide) rfl) rfl ?_
    refine ar_push rfl ?_
    refine ar_bink (z := (-1)) rfl (by decide) ?_
    refine ar_callv rfl rfl (Nat.le_of_ble_eq_true rfl) (Nat.le_of_ble_eq_true rfl) rfl (sp_in _ _ _ _ _) ?_
    refine ar_ret rfl (bi_ret _) ?_
    show aRun _ (aCall Mt _) _ 5 (_, [_], _, _, _)
    refine ar_if1t rfl (bi_e0t (wi_n1 _)) ?_
    refine ar_push rfl ?_
    refine ar_ret rfl rfl ?_
    exact ⟨rfl, hJ _ _ _⟩
  · refine ar_ldI rfl rfl ?_
    refine ar_ldA rfl rfl ?_
    refine ar_get rfl rfl rfl ?_
    refine ar_if2t rfl (lt_f c1) ?_
    refine ar_push rfl ?_
    refine ar_ret rfl rfl ?_
    show aRun _ (aCall Mt _) _ 8 (_, [_], _, _, _)
    refine ar_svAk [some (.inr (.inr (some 0))), some (.inl _), some (.inl _), some (.inl _), some (.inr (.inr none)), none] rfl rfl ?_
    refine ar_ldA rfl rfl ?_
    refine ar_nulN rfl ?_
    refine ar_push rfl ?_
    refine ar_ret rfl rfl ?_
    refine ⟨_, 0, 0, _, rfl, Nat.zero_le _, Nat.zero_le _, rfl, ?_⟩
    refine rgen rFr_F (fun g hr => ?_)
    refine ac_ink [some (.inr (.inr (some 69))), some (.inl _), some (.inl _), some (.inl _), none] mt_211 (Nat.le_of_ble_eq_true rfl) rfl ?_
    refine ar_ldA rfl rfl ?_
    refine ar_ldI rfl rfl ?_
    refine ar_inl (mc := 0) (ms := 0) rfl (rcv_of (hr.at 69 (by decide) (by decide) rfl)) (Nat.le_of_ble_eq_true rfl) (Nat.le_of_ble_eq_true rfl) (by omega) (by omega) ?_
    refine ac_ink [some (.inr (.inr (some 69))), some (.inl _)] mt_187 (Nat.le_of_ble_eq_true rfl) rfl ?_
    refine ar_ldI rfl rfl ?_
    refine ar_push rfl ?_
    refine ar_ldA rfl rfl ?_
    refine ar_get rfl (hr.at 69 (by decide) (by decide) rfl) rfl ?_
    refine ar_push rfl ?_
    refine ar_bink (z := (-1)) rfl (by decide) ?_
    refine ar_callv rfl rfl (Nat.le_of_ble_eq_true rfl) (Nat.le_of_ble_eq_true rfl) rfl (sp_in _ _ _ _ _) ?_
    refine ar_ret rfl (bi_ret _) ?_
    show aRun _ (aCall Mt _) _ 5 (_, [_], _, _, _)
    refine ar_if1t rfl (bi_e0t (wi_n1 _)) ?_
    refine ar_push rfl ?_
    refine ar_ret rfl rfl ?_
    exact ⟨rfl, hJ _ _ _⟩

set_option maxRecDepth 20000 in
set_option maxHeartbeats 4000000 in
theorem p1_11 (x1 : Int32) (x2 : Int32) (x3 : Int32) (J : aH → Nat → Nat → Prop) (hJ : ∀ h a b, J h a b) (kc ks : Nat) (hkc : 1000 ≤ kc) (hks : 100000 ≤ ks) : aPairI 0 69 135 237 [.inl x1, .inl x2, .inl x3] J hF kc ks := by
  refine ⟨0, 0, _, by omega, by omega, rfl, ?_⟩
  refine ac_ink [some (.inr (.inr (some 0))), some (.inl _), some (.inl _), some (.inl _)] mt_135 (Nat.le_of_ble_eq_true rfl) rfl ?_
  refine ar_ldI rfl rfl ?_
  refine ar_inl (mc := 0) (ms := 0) rfl rfl (Nat.le_of_ble_eq_true rfl) (Nat.le_of_ble_eq_true rfl) (by omega) (by omega) ?_
  refine ac_ink [some (.inl _)] mt_176 (Nat.le_of_ble_eq_true rfl) rfl ?_
  refine ar_ldI rfl rfl ?_
  refine ar_push rfl ?_
  refine ar_push rfl ?_
  refine ar_callv rfl rfl (Nat.le_of_ble_eq_true rfl) (Nat.le_of_ble_eq_true rfl) rfl (sp_within _ _ _ _ _) ?_
  refine ar_ret rfl (bi_ret _) ?_
  show aRun _ (aCall Mt _) _ 4 (_, [_], _, _, _)
  refine ar_eqB rfl (fun c1 => ?_) (fun c1 => ?_)
  · refine ar_push rfl ?_
    refine ar_ret rfl rfl ?_
    refine ⟨_, 0, 0, _, rfl, Nat.zero_le _, Nat.zero_le _, rfl, ?_⟩
    refine rgen rFr_F (fun g hr => ?_)
    refine ac_ink [some (.inr (.inr (some 69))), some (.inl _), some (.inl _), some (.inl _)] mt_237 (Nat.le_of_ble_eq_true rfl) rfl ?_
    refine ar_ldI rfl rfl ?_
    refine ar_push rfl ?_
    refine ar_push rfl ?_
    refine ar_callv rfl rfl (Nat.le_of_ble_eq_true rfl) (Nat.le_of_ble_eq_true rfl) rfl (sp_in _ _ _ _ _) ?_
    refine ar_if1t rfl (bi_e0t c1) ?_
    refine ar_push rfl ?_
    refine ar_ret rfl rfl ?_
    exact ⟨rfl, hJ _ _ _⟩
  · refine ar_ldI rfl rfl ?_
    refine ar_inl (mc := 0) (ms := 0) rfl rfl (Nat.le_of_ble_eq_true rfl) (Nat.le_of_ble_eq_true rfl) (by omega) (by omega) ?_
    refine ac_ink [some (.inl _)] mt_176 (Nat.le_of_ble_eq_true rfl) rfl ?_
    refine ar_ldI rfl rfl ?_
    refine ar_push rfl ?_
    refine ar_push rfl ?_
    refine ar_callv rfl rfl (Nat.le_of_ble_eq_true rfl) (Nat.le_of_ble_eq_true rfl) rfl (sp_within _ _ _ _ _) ?_
    refine ar_ret rfl (bi_ret _) ?_
    show aRun _ (aCall Mt _) _ 11 (_, [_], _, _, _)
    refine ar_eqB rfl (fun c2 => ?_) (fun c2 => ?_)
    · refine ar_push rfl ?_
      refine ar_ret rfl rfl ?_
      refine ⟨_, 0, 0, _, rfl, Nat.zero_le _, Nat.zero_le _, rfl, ?_⟩
      refine rgen rFr_F (fun g hr => ?_)
      refine ac_ink [some (.inr (.inr (some 69))), some (.inl _), some (.inl _), some (.inl _)] mt_237 (Nat.le_of_ble_eq_true rfl) rfl ?_
      refine ar_ldI rfl rfl ?_
      refine ar_push rfl ?_
      refine ar_push rfl ?_
      refine ar_callv rfl rfl (Nat.le_of_ble_eq_true rfl) (Nat.le_of_ble_eq_true rfl) rfl (sp_in _ _ _ _ _) ?_
      refine ar_if1f rfl (bi_e0f c1) ?_
      refine ar_ldI rfl rfl ?_
      refine ar_push rfl ?_
      refine ar_push rfl ?_
      refine ar_callv rfl rfl (Nat.le_of_ble_eq_true rfl) (Nat.le_of_ble_eq_true rfl) rfl (sp_in _ _ _ _ _) ?_
      refine ar_if1t rfl (bi_e0t c2) ?_
      refine ar_push rfl ?_
      refine ar_ret rfl rfl ?_
      exact ⟨rfl, hJ _ _ _⟩
    · refine ar_ldI rfl rfl ?_
      refine ar_inl (mc := 0) (ms := 0) rfl rfl (Nat.le_of_ble_eq_true rfl) (Nat.le_of_ble_eq_true rfl) (by omega) (by omega) ?_
      refine ac_ink [some (.inl _)] mt_176 (Nat.le_of_ble_eq_true rfl) rfl ?_
      refine ar_ldI rfl rfl ?_
      refine ar_push rfl ?_
      refine ar_push rfl ?_
      refine ar_callv rfl rfl (Nat.le_of_ble_eq_true rfl) (Nat.le_of_ble_eq_true rfl) rfl (sp_within _ _ _ _ _) ?_
      refine ar_ret rfl (bi_ret _) ?_
      show aRun _ (aCall Mt _) _ 18 (_, [_], _, _, _)
      refine ar_neB rfl (fun c3 => ?_) (fun c3 => ?_)
      · refine ar_ldA rfl rfl ?_
        refine ar_get rfl rfl rfl ?_
        refine ar_ldI rfl rfl ?_
        refine ar_put rfl rfl (Nat.le_of_ble_eq_true rfl) rfl ?_
        refine ar_ldA rfl rfl ?_
        refine ar_get rfl (hs_ne (by decide) rfl) rfl ?_
        refine ar_ldI rfl rfl ?_
        refine ar_put rfl (hs_eq rfl) (Nat.le_of_ble_eq_true rfl) rfl ?_
        refine ar_ldA rfl rfl ?_
        refine ar_get rfl (hs_ne (by decide) (hs_ne (by decide) rfl)) rfl ?_
        refine ar_ldI rfl rfl ?_
        refine ar_put rfl (hs_eq (hs_eq rfl)) (Nat.le_of_ble_eq_true rfl) rfl ?_
        refine ar_push rfl ?_
        refine ar_ret rfl rfl ?_
        refine ⟨_, 0, 0, _, rfl, Nat.zero_le _, Nat.zero_le _, (hs_ne (by decide) (hs_ne (by decide) (hs_ne (by decide) rfl))), ?_⟩
        refine rgen (((rFr_F.sets (by decide)).sets (by decide)).sets (by decide)) (fun g hr => ?_)
        refine ac_ink [some (.inr (.inr (some 69))), some (.inl _), some (.inl _), some (.inl _)] mt_237 (Nat.le_of_ble_eq_true rfl) rfl ?_
        refine ar_ldI rfl rfl ?_
        refine ar_push rfl ?_
        refine ar_push rfl ?_
        refine ar_callv rfl rfl (Nat.le_of_ble_eq_true rfl) (Nat.le_of_ble_eq_true rfl) rfl (sp_in _ _ _ _ _) ?_
        refine ar_if1f rfl (bi_e0f c1) ?_
        refine ar_ldI rfl rfl ?_
        refine ar_push rfl ?_
        refine ar_push rfl ?_
        refine ar_callv rfl rfl (Nat.le_of_ble_eq_true rfl) (Nat.le_of_ble_eq_true rfl) rfl (sp_in _ _ _ _ _) ?_
        refine ar_if1f rfl (bi_e0f c2) ?_
        refine ar_ldI rfl rfl ?_
        refine ar_push rfl ?_
        refine ar_push rfl ?_
        refine ar_callv rfl rfl (Nat.le_of_ble_eq_true rfl) (Nat.le_of_ble_eq_true rfl) rfl (sp_in _ _ _ _ _) ?_
        refine ar_if1t rfl (bi_n0t c3) ?_
        refine ar_ldA rfl rfl ?_
        refine ar_ldI rfl rfl ?_
        refine ar_put rfl (hr.at 69 (by decide) (by decide) rfl) (Nat.le_of_ble_eq_true rfl) rfl ?_
        refine ar_ldA rfl rfl ?_
        refine ar_ldI rfl rfl ?_
        refine ar_put rfl (hs_eq (hr.at 69 (by decide) (by decide) rfl)) (Nat.le_of_ble_eq_true rfl) rfl ?_
        refine ar_ldA rfl rfl ?_
        refine ar_ldI rfl rfl ?_
        refine ar_put rfl (hs_eq (hs_eq (hr.at 69 (by decide) (by decide) rfl))) (Nat.le_of_ble_eq_true rfl) rfl ?_
        refine ar_push rfl ?_
        refine ar_ret rfl rfl ?_
        exact ⟨rfl, hJ _ _ _⟩
      · refine ar_push rfl ?_
        refine ar_ret rfl rfl ?_
        refine ⟨_, 0, 0, _, rfl, Nat.zero_le _, Nat.zero_le _, rfl, ?_⟩
        refine rgen rFr_F (fun g hr => ?_)
        refine ac_ink [some (.inr (.inr (some 69))), some (.inl _), some (.inl _), some (.inl _)] mt_237 (Nat.le_of_ble_eq_true rfl) rfl ?_
        refine ar_ldI rfl rfl ?_
        refine ar_push rfl ?_
        refine ar_push rfl ?_
        refine ar_callv rfl rfl (Nat.le_of_ble_eq_true rfl) (Nat.le_of_ble_eq_true rfl) rfl (sp_in _ _ _ _ _) ?_
        refine ar_if1f rfl (bi_e0f c1) ?_
        refine ar_ldI rfl rfl ?_
        refine ar_push rfl ?_
        refine ar_push rfl ?_
        refine ar_callv rfl rfl (Nat.le_of_ble_eq_true rfl) (Nat.le_of_ble_eq_true rfl) rfl (sp_in _ _ _ _ _) ?_
        refine ar_if1f rfl (bi_e0f c2) ?_
        refine ar_ldI rfl rfl ?_
        refine ar_push rfl ?_
        refine ar_push rfl ?_
        refine ar_callv rfl rfl (Nat.le_of_ble_eq_true rfl) (Nat.le_of_ble_eq_true rfl) rfl (sp_in _ _ _ _ _) ?_
        refine ar_if1f rfl (bi_n0f c3) ?_
        refine ar_push rfl ?_
        refine ar_ret rfl rfl ?_
        exact ⟨rfl, hJ _ _ _⟩

set_option maxRecDepth 20000 in
set_option maxHeartbeats 4000000 in
theorem p1_12 (x1 : Int32) (x2 : Int32) (x3 : Int32) (x4 : Int32) (J : aH → Nat → Nat → Prop) (hJ : ∀ h a b, J h a b) (kc ks : Nat) (hkc : 1000 ≤ kc) (hks : 100000 ≤ ks) : aPairI 0 69 136 240 [.inl x1, .inl x2, .inl x3, .inl x4] J hF kc ks := by
  refine ⟨0, 0, _, by omega, by omega, rfl, ?_⟩
  refine ac_ink [some (.inr (.inr (some 0))), some (.inl _), some (.inl _), some (.inl _), some (.inl _), none, none] mt_136 (Nat.le_of_ble_eq_true rfl) rfl ?_
  refine ar_ldI rfl rfl ?_
  refine ar_inl (mc := 0) (ms := 0) rfl rfl (Nat.le_of_ble_eq_true rfl) (Nat.le_of_ble_eq_true rfl) (by omega) (by omega) ?_
  refine ac_ink [some (.inl _)] mt_175 (Nat.le_of_ble_eq_true rfl) rfl ?_
  refine ar_ldI rfl rfl ?_
  refine ar_push rfl ?_
  refine ar_push rfl ?_
  refine ar_callv rfl rfl (Nat.le_of_ble_eq_true rfl) (Nat.le_of_ble_eq_true rfl) rfl (sp_within _ _ _ _ _) ?_
  refine ar_ret rfl (bi_ret _) ?_
  show aRun _ (aCall Mt _) _ 4 (_, [_], _, _, _)
  refine ar_eqB rfl (fun c1 => ?_) (fun c1 => ?_)
  · refine ar_push rfl ?_
    refine ar_ret rfl rfl ?_
    refine ⟨_, 0, 0, _, rfl, Nat.zero_le _, Nat.zero_le _, rfl, ?_⟩
    refine rgen rFr_F (fun g hr => ?_)
    refine ac_ink [some (.inr (.inr (some 69))), some (.inl _), some (.inl _), some (.inl _), some (.inl _), none, none, none, none, none, none, none, none] mt_240 (Nat.le_of_ble_eq_true rfl) rfl ?_
    refine ar_ldI rfl rfl ?_
    refine ar_inl (mc := 0) (ms := 0) rfl rfl (Nat.le_of_ble_eq_true rfl) (Nat.le_of_ble_eq_true rfl) (by omega) (by omega) ?_
    refine ac_ink [some (.inl _)] mt_190 (Nat.le_of_ble_eq_true rfl) rfl ?_
    refine ar_ldI rfl rfl ?_
    refine ar_push rfl ?_
    refine ar_push rfl ?_
    refine ar_callv rfl rfl (Nat.le_of_ble_eq_true rfl) (Nat.le_of_ble_eq_true rfl) rfl (sp_in _ _ _ _ _) ?_
    refine ar_ret rfl (bi_ret _) ?_
    show aRun _ (aCall Mt _) _ 4 (_, [_], _, _, _)
    refine ar_if1t rfl (bi_e0t c1) ?_
    refine ar_push rfl ?_
    refine ar_ret rfl rfl ?_
    exact ⟨rfl, hJ _ _ _⟩
  · refine ar_ldA rfl rfl ?_
    refine ar_get rfl rfl rfl ?_
    refine ar_ldI rfl rfl ?_
    refine ar_inl (mc := 0) (ms := 0) rfl (rcv_of rfl) (Nat.le_of_ble_eq_true rfl) (Nat.le_of_ble_eq_true rfl) (by omega) (by omega) ?_
    refine ac_ink [some (.inr (.inr (some 57))), some (.inl _)] mt_31 (Nat.le_of_ble_eq_true rfl) rfl ?_
    refine ar_ldI rfl rfl ?_
    refine ar_push rfl ?_
    refine ar_push rfl ?_
    refine ar_callv rfl rfl (Nat.le_of_ble_eq_true rfl) (Nat.le_of_ble_eq_true rfl) rfl (sp_within _ _ _ _ _) ?_
    refine ar_ret rfl (bi_ret _) ?_
    show aRun _ (aCall Mt _) _ 15 (_, [_], _, _, _)
    refine ar_eqB rfl (fun c2 => ?_) (fun c2 => ?_)
    · refine ar_push rfl ?_
      refine ar_ret rfl rfl ?_
      refine ⟨_, 0, 0, _, rfl, Nat.zero_le _, Nat.zero_le _, rfl, ?_⟩
      refine rgen rFr_F (fun g hr => ?_)
      refine ac_ink [some (.inr (.inr (some 69))), some (.inl _), some (.inl _), some (.inl _), some (.inl _), none, none, none, none, none, none, none, none] mt_240 (Nat.le_of_ble_eq_true rfl) rfl ?_
      refine ar_ldI rfl rfl ?_
      refine ar_inl (mc := 0) (ms := 0) rfl rfl (Nat.le_of_ble_eq_true rfl) (Nat.le_of_ble_eq_true rfl) (by omega) (by omega) ?_
      refine ac_ink [some (.inl _)] mt_190 (Nat.le_of_ble_eq_true rfl) rfl ?_
      refine ar_ldI rfl rfl ?_
      refine ar_push rfl ?_
      refine ar_push rfl ?_
      refine ar_callv rfl rfl (Nat.le_of_ble_eq_true rfl) (Nat.le_of_ble_eq_true rfl) rfl (sp_in _ _ _ _ _) ?_
      refine ar_ret rfl (bi_ret _) ?_
      show aRun _ (aCall Mt _) _ 4 (_, [_], _, _, _)
      refine ar_if1f rfl (bi_e0f c1) ?_
      refine ar_ldI rfl rfl ?_
      refine ar_inl (mc := 0) (ms := 0) rfl rfl (Nat.le_of_ble_eq_true rfl) (Nat.le_of_ble_eq_true rfl) (by omega) (by omega) ?_
      refine ac_ink [some (.inl _)] mt_296 (Nat.le_of_ble_eq_true rfl) rfl ?_
      refine ar_ldI rfl rfl ?_
      refine ar_push rfl ?_
      refine ar_push rfl ?_
      refine ar_callv rfl rfl (Nat.le_of_ble_eq_true rfl) (Nat.le_of_ble_eq_true rfl) rfl (sp_in _ _ _ _ _) ?_
      refine ar_ret rfl (bi_ret _) ?_
      show aRun _ (aCall Mt _) _ 11 (_, [_], _, _, _)
      refine ar_if1t rfl (bi_e0t c2) ?_
      refine ar_push rfl ?_
      refine ar_ret rfl rfl ?_
      exact ⟨rfl, hJ _ _ _⟩
    · refine ar_ldI rfl rfl ?_
      refine ar_push rfl ?_
      refine ar_push rfl ?_
      refine ar_callv rfl rfl (Nat.le_of_ble_eq_true rfl) (Nat.le_of_ble_eq_true rfl) rfl (sp_within _ _ _ _ _) ?_
      refine ar_neB rfl (fun c3 => ?_) (fun c3 => ?_)
      · refine ar_ldA rfl rfl ?_
        refine ar_get rfl rfl rfl ?_
        refine ar_ldI rfl rfl ?_
        refine ar_inl (mc := 0) (ms := 0) rfl (rcv_of rfl) (Nat.le_of_ble_eq_true rfl) (Nat.le_of_ble_eq_true rfl) (by omega) (by omega) ?_
        refine ac_ink [some (.inr (.inr (some 57))), some (.inl _)] mt_32 (Nat.le_of_ble_eq_true rfl) rfl ?_
        refine ar_ldA rfl rfl ?_
        refine ar_ldI rfl rfl ?_
        refine ar_inl (mc := 0) (ms := 0) rfl (rcv_of rfl) (Nat.le_of_ble_eq_true rfl) (Nat.le_of_ble_eq_true rfl) (by omega) (by omega) ?_
        refine ac_ink [some (.inr (.inr (some 57))), some (.inl _)] mt_31 (Nat.le_of_ble_eq_true rfl) rfl ?_
        refine ar_ldI rfl rfl ?_
        refine ar_push rfl ?_
        refine ar_push rfl ?_
        refine ar_callv rfl rfl (Nat.le_of_ble_eq_true rfl) (Nat.le_of_ble_eq_true rfl) rfl (sp_within _ _ _ _ _) ?_
        refine ar_ret rfl (bi_ret _) ?_
        show aRun _ (aCall Mt _) _ 5 (_, [_], _, _, _)
        refine ar_if1f rfl (bi_e0f c2) ?_
        refine ar_ldA rfl rfl ?_
        refine ar_get rfl rfl rfl ?_
        refine ar_ldI rfl rfl ?_
        refine ar_ald rfl rfl (wi_ix (m := 6) c2 (by decide)).1 (rep_get (wi_ix (m := 6) c2 (by decide)).2) ?_
        refine ar_if1f rfl (by decide) ?_
        refine ar_push rfl ?_
        refine ar_go rfl ?_
        refine ar_ret rfl rfl ?_
        show aRun _ (aCall Mt _) _ 39 (_, [_], _, _, _)
        refine ar_if1f rfl (by decide) ?_
        refine ar_push rfl ?_
        refine ar_ret rfl rfl ?_
        refine ⟨_, 0, 0, _, rfl, Nat.zero_le _, Nat.zero_le _, rfl, ?_⟩
        refine rgen rFr_F (fun g hr => ?_)
        refine ac_ink [some (.inr (.inr (some 69))), some (.inl _), some (.inl _), some (.inl _), some (.inl _), none, none, none, none, none, none, none, none] mt_240 (Nat.le_of_ble_eq_true rfl) rfl ?_
        refine ar_ldI rfl rfl ?_
        refine ar_inl (mc := 0) (ms := 0) rfl rfl (Nat.le_of_ble_eq_true rfl) (Nat.le_of_ble_eq_true rfl) (by omega) (by omega) ?_
        refine ac_ink [some (.inl _)] mt_190 (Nat.le_of_ble_eq_true rfl) rfl ?_
        refine ar_ldI rfl rfl ?_
        refine ar_push rfl ?_
        refine ar_push rfl ?_
        refine ar_callv rfl rfl (Nat.le_of_ble_eq_true rfl) (Nat.le_of_ble_eq_true rfl) rfl (sp_in _ _ _ _ _) ?_
        refine ar_ret rfl (bi_ret _) ?_
        show aRun _ (aCall Mt _) _ 4 (_, [_], _, _, _)
        refine ar_if1f rfl (bi_e0f c1) ?_
        refine ar_ldI rfl rfl ?_
        refine ar_inl (mc := 0) (ms := 0) rfl rfl (Nat.le_of_ble_eq_true rfl) (Nat.le_of_ble_eq_true rfl) (by omega) (by omega) ?_
        refine ac_ink [some (.inl _)] mt_296 (Nat.le_of_ble_eq_true rfl) rfl ?_
        refine ar_ldI rfl rfl ?_
        refine ar_push rfl ?_
        refine ar_push rfl ?_
        refine ar_callv rfl rfl (Nat.le_of_ble_eq_true rfl) (Nat.le_of_ble_eq_true rfl) rfl (sp_in _ _ _ _ _) ?_
        refine ar_ret rfl (bi_ret _) ?_
        show aRun _ (aCall Mt _) _ 11 (_, [_], _, _, _)
        refine ar_if1f rfl (bi_e0f c2) ?_
        refine ar_ldI rfl rfl ?_
        refine ar_push rfl ?_
        refine ar_push rfl ?_
        refine ar_callv rfl rfl (Nat.le_of_ble_eq_true rfl) (Nat.le_of_ble_eq_true rfl) rfl (sp_in _ _ _ _ _) ?_
        refine ar_if1t rfl (bi_n0t c3) ?_
        refine ar_ldA rfl rfl ?_
        refine ar_get rfl (hr.at 69 (by decide) (by decide) rfl) rfl ?_
        refine ar_ldI rfl rfl ?_
        refine ar_ald rfl (hr.at 110 (by decide) (by decide) rfl) (wi_ix (m := 6) c2 (by decide)).1 (rep_get (wi_ix (m := 6) c2 (by decide)).2) ?_
        refine ar_push rfl ?_
        refine ar_if2t rfl (by decide) ?_
        refine ar_ldA rfl rfl ?_
        refine ar_get rfl (hr.at 69 (by decide) (by decide) rfl) rfl ?_
        refine ar_ldI rfl rfl ?_
        refine ar_ald rfl (hr.at 110 (by decide) (by decide) rfl) (wi_ix (m := 6) c2 (by decide)).1 (rep_get (wi_ix (m := 6) c2 (by decide)).2) ?_
        refine ar_push rfl ?_
        refine ar_if2f rfl (by decide) ?_
        refine ar_push rfl ?_
        refine ar_ret rfl rfl ?_
        exact ⟨rfl, hJ _ _ _⟩
      · refine ar_push rfl ?_
        refine ar_ret rfl rfl ?_
        refine ⟨_, 0, 0, _, rfl, Nat.zero_le _, Nat.zero_le _, rfl, ?_⟩
        refine rgen rFr_F (fun g hr => ?_)
        refine ac_ink [some (.inr (.inr (some 69))), some (.inl _), some (.inl _), some (.inl _), some (.inl _), none, none, none, none, none, none, none, none] mt_240 (Nat.le_of_ble_eq_true rfl) rfl ?_
        refine ar_ldI rfl rfl ?_
        refine ar_inl (mc := 0) (ms := 0) rfl rfl (Nat.le_of_ble_eq_true rfl) (Nat.le_of_ble_eq_true rfl) (by omega) (by omega) ?_
        refine ac_ink [some (.inl _)] mt_190 (Nat.le_of_ble_eq_true rfl) rfl ?_
        refine ar_ldI rfl rfl ?_
        refine ar_push rfl ?_
        refine ar_push rfl ?_
        refine ar_callv rfl rfl (Nat.le_of_ble_eq_true rfl) (Nat.le_of_ble_eq_true rfl) rfl (sp_in _ _ _ _ _) ?_
        refine ar_ret rfl (bi_ret _) ?_
        show aRun _ (aCall Mt _) _ 4 (_, [_], _, _, _)
        refine ar_if1f rfl (bi_e0f c1) ?_
        refine ar_ldI rfl rfl ?_
        refine ar_inl (mc := 0) (ms := 0) rfl rfl (Nat.le_of_ble_eq_true rfl) (Nat.le_of_ble_eq_true rfl) (by omega) (by omega) ?_
        refine ac_ink [some (.inl _)] mt_296 (Nat.le_of_ble_eq_true rfl) rfl ?_
        refine ar_ldI rfl rfl ?_
        refine ar_push rfl ?_
        refine ar_push rfl ?_
        refine ar_callv rfl rfl (Nat.le_of_ble_eq_true rfl) (Nat.le_of_ble_eq_true rfl) rfl (sp_in _ _ _ _ _) ?_
        refine ar_ret rfl (bi_ret _) ?_
        show aRun _ (aCall Mt _) _ 11 (_, [_], _, _, _)
        refine ar_if1f rfl (bi_e0f c2) ?_
        refine ar_ldI rfl rfl ?_
        refine ar_push rfl ?_
        refine ar_push rfl ?_
        refine ar_callv rfl rfl (Nat.le_of_ble_eq_true rfl) (Nat.le_of_ble_eq_true rfl) rfl (sp_in _ _ _ _ _) ?_
        refine ar_if1f rfl (bi_n0f c3) ?_
        refine ar_push rfl ?_
        refine ar_ret rfl rfl ?_
        exact ⟨rfl, hJ _ _ _⟩

set_option maxRecDepth 20000 in
set_option maxHeartbeats 4000000 in
theorem p1_13 (x1 : Int32) (x2 : Int32) (J : aH → Nat → Nat → Prop) (hJ : ∀ h a b, J h a b) (kc ks : Nat) (hkc : 1000 ≤ kc) (hks : 100000 ≤ ks) : aPairI 0 69 137 243 [.inl x1, .inl x2] J hF kc ks := by
  refine ⟨0, 0, _, by omega, by omega, rfl, ?_⟩
  refine ac_ink [some (.inr (.inr (some 0))), some (.inl _), some (.inl _), none] mt_137 (Nat.le_of_ble_eq_true rfl) rfl ?_
  refine ar_ldA rfl rfl ?_
  refine ar_get rfl rfl rfl ?_
  refine ar_ldI rfl rfl ?_
  refine ar_inl (mc := 0) (ms := 0) rfl (rcv_of rfl) (Nat.le_of_ble_eq_true rfl) (Nat.le_of_ble_eq_true rfl) (by omega) (by omega) ?_
  refine ac_ink [some (.inr (.inr (some 15))), some (.inl _)] mt_8 (Nat.le_of_ble_eq_true rfl) rfl ?_
  refine ar_ldI rfl rfl ?_
  refine ar_if1 rfl (fun c1 => ?_) (fun c1 => ?_)
  · refine ar_push rfl ?_
    refine ar_ret rfl rfl ?_
    show aRun _ (aCall Mt _) _ 8 (_, [_], _, _, _)
    refine ar_svAk [some (.inr (.inr (some 0))), some (.inl _), some (.inl _), some (.inr (.inr none))] rfl rfl ?_
    refine ar_ldA rfl rfl ?_
    refine ar_nulN rfl ?_
    refine ar_push rfl ?_
    refine ar_ret rfl rfl ?_
    refine ⟨_, 0, 0, _, rfl, Nat.zero_le _, Nat.zero_le _, rfl, ?_⟩
    refine rgen rFr_F (fun g hr => ?_)
    refine ac_ink [some (.inr (.inr (some 69))), some (.inl _), some (.inl _)] mt_243 (Nat.le_of_ble_eq_true rfl) rfl ?_
    refine ar_ldA rfl rfl ?_
    refine ar_ldI rfl rfl ?_
    refine ar_inl (mc := 0) (ms := 0) rfl (rcv_of (hr.at 69 (by decide) (by decide) rfl)) (Nat.le_of_ble_eq_true rfl) (Nat.le_of_ble_eq_true rfl) (by omega) (by omega) ?_
    refine ac_ink [some (.inr (.inr (some 69))), some (.inl _)] mt_233 (Nat.le_of_ble_eq_true rfl) rfl ?_
    refine ar_ldI rfl rfl ?_
    refine ar_push rfl ?_
    refine ar_ldA rfl rfl ?_
    refine ar_get rfl (hr.at 69 (by decide) (by decide) rfl) rfl ?_
    refine ar_push rfl ?_
    refine ar_bink (z := (-1)) rfl (by decide) ?_
    refine ar_callv rfl rfl (Nat.le_of_ble_eq_true rfl) (Nat.le_of_ble_eq_true rfl) rfl (sp_in _ _ _ _ _) ?_
    refine ar_ret rfl (bi_ret _) ?_
    show aRun _ (aCall Mt _) _ 5 (_, [_], _, _, _)
    refine ar_if1f rfl (bi_n0f (wi_n1 _)) ?_
    refine ar_push rfl ?_
    refine ar_ret rfl rfl ?_
    exact ⟨rfl, hJ _ _ _⟩
  · refine ar_ldI rfl rfl ?_
    refine ar_ldA rfl rfl ?_
    refine ar_get rfl rfl rfl ?_
    refine ar_if2t rfl (lt_f c1) ?_
    refine ar_push rfl ?_
    refine ar_ret rfl rfl ?_
    show aRun _ (aCall Mt _) _ 8 (_, [_], _, _, _)
    refine ar_svAk [some (.inr (.inr (some 0))), some (.inl _), some (.inl _), some (.inr (.inr none))] rfl rfl ?_
    refine ar_ldA rfl rfl ?_
    refine ar_nulN rfl ?_
    refine ar_push rfl ?_
    refine ar_ret rfl rfl ?_
    refine ⟨_, 0, 0, _, rfl, Nat.zero_le _, Nat.zero_le _, rfl, ?_⟩
    refine rgen rFr_F (fun g hr => ?_)
    refine ac_ink [some (.inr (.inr (some 69))), some (.inl _), some (.inl _)] mt_243 (Nat.le_of_ble_eq_true rfl) rfl ?_
    refine ar_ldA rfl rfl ?_
    refine ar_ldI rfl rfl ?_
    refine ar_inl (mc := 0) (ms := 0) rfl (rcv_of (hr.at 69 (by decide) (by decide) rfl)) (Nat.le_of_ble_eq_true rfl) (Nat.le_of_ble_eq_true rfl) (by omega) (by omega) ?_
    refine ac_ink [some (.inr (.inr (some 69))), some (.inl _)] mt_233 (Nat.le_of_ble_eq_true rfl) rfl ?_
    refine ar_ldI rfl rfl ?_
    refine ar_push rfl ?_
    refine ar_ldA rfl rfl ?_
    refine ar_get rfl (hr.at 69 (by decide) (by decide) rfl) rfl ?_
    refine ar_push rfl ?_
    refine ar_bink (z := (-1)) rfl (by decide) ?_
    refine ar_callv rfl rfl (Nat.le_of_ble_eq_true rfl) (Nat.le_of_ble_eq_true rfl) rfl (sp_in _ _ _ _ _) ?_
    refine ar_ret rfl (bi_ret _) ?_
    show aRun _ (aCall Mt _) _ 5 (_, [_], _, _, _)
    refine ar_if1f rfl (bi_n0f (wi_n1 _)) ?_
    refine ar_push rfl ?_
    refine ar_ret rfl rfl ?_
    exact ⟨rfl, hJ _ _ _⟩

set_option maxRecDepth 20000 in
set_option maxHeartbeats 4000000 in
theorem p1_14 (x1 : Int32) (x2 : Int32) (x3 : Int32) (J : aH → Nat → Nat → Prop) (hJ : ∀ h a b, J h a b) (kc ks : Nat) (hkc : 1000 ≤ kc) (hks : 100000 ≤ ks) : aPairI 0 69 138 245 [.inl x1, .inl x2, .inl x3] J hF kc ks := by
  refine ⟨0, 0, _, by omega, by omega, rfl, ?_⟩
  refine ac_ink [some (.inr (.inr (some 0))), some (.inl _), some (.inl _), some (.inl _), none, none, none, none] mt_138 (Nat.le_of_ble_eq_true rfl) rfl ?_
  refine ar_ldA rfl rfl ?_
  refine ar_get rfl rfl rfl ?_
  refine ar_ldI rfl rfl ?_
  refine ar_inl (mc := 0) (ms := 0) rfl (rcv_of rfl) (Nat.le_of_ble_eq_true rfl) (Nat.le_of_ble_eq_true rfl) (by omega) (by omega) ?_
  refine ac_ink [some (.inr (.inr (some 15))), some (.inl _)] mt_8 (Nat.le_of_ble_eq_true rfl) rfl ?_
  refine ar_ldI rfl rfl ?_
  refine ar_if1 rfl (fun c1 => ?_) (fun c1 => ?_)
  · refine ar_push rfl ?_
    refine ar_ret rfl rfl ?_
    show aRun _ (aCall Mt _) _ 8 (_, [_], _, _, _)
    refine ar_svAk [some (.inr (.inr (some 0))), some (.inl _), some (.inl _), some (.inl _), some (.inr (.inr none)), none, none, none] rfl rfl ?_
    refine ar_ldA rfl rfl ?_
    refine ar_nulN rfl ?_
    refine ar_push rfl ?_
    refine ar_ret rfl rfl ?_
    refine ⟨_, 0, 0, _, rfl, Nat.zero_le _, Nat.zero_le _, rfl, ?_⟩
    refine rgen rFr_F (fun g hr => ?_)
    refine ac_ink [some (.inr (.inr (some 69))), some (.inl _), some (.inl _), some (.inl _)] mt_245 (Nat.le_of_ble_eq_true rfl) rfl ?_
    refine ar_ldA rfl rfl ?_
    refine ar_ldI rfl rfl ?_
    refine ar_inl (mc := 0) (ms := 0) rfl (rcv_of (hr.at 69 (by decide) (by decide) rfl)) (Nat.le_of_ble_eq_true rfl) (Nat.le_of_ble_eq_true rfl) (by omega) (by omega) ?_
    refine ac_ink [some (.inr (.inr (some 69))), some (.inl _)] mt_233 (Nat.le_of_ble_eq_true rfl) rfl ?_
    refine ar_ldI rfl rfl ?_
    refine ar_push rfl ?_
    refine ar_ldA rfl rfl ?_
    refine ar_get rfl (hr.at 69 (by decide) (by decide) rfl) rfl ?_
    refine ar_push rfl ?_
    refine ar_bink (z := (-1)) rfl (by decide) ?_
    refine ar_callv rfl rfl (Nat.le_of_ble_eq_true rfl) (Nat.le_of_ble_eq_true rfl) rfl (sp_in _ _ _ _ _) ?_
    refine ar_ret rfl (bi_ret _) ?_
    show aRun _ (aCall Mt _) _ 5 (_, [_], _, _, _)
    refine ar_if1t rfl (bi_e0t (wi_n1 _)) ?_
    refine ar_push rfl ?_
    refine ar_ret rfl rfl ?_
    exact ⟨rfl, hJ _ _ _⟩
  · refine ar_ldI rfl rfl ?_
    refine ar_ldA rfl rfl ?_
    refine ar_get rfl rfl rfl ?_
    refine ar_if2t rfl (lt_f c1) ?_
    refine ar_push rfl ?_
    refine ar_ret rfl rfl ?_
    show aRun _ (aCall Mt _) _ 8 (_, [_], _, _, _)
    refine ar_svAk [some (.inr (.inr (some 0))), some (.inl _), some (.inl _), some (.inl _), some (.inr (.inr none)), none, none, none] rfl rfl ?_
    refine ar_ldA rfl rfl ?_
    refine ar_nulN rfl ?_
    refine ar_push rfl ?_
    refine ar_ret rfl rfl ?_
    refine ⟨_, 0, 0, _, rfl, Nat.zero_le _, Nat.zero_le _, rfl, ?_⟩
    refine rgen rFr_F (fun g hr => ?_)
    refine ac_ink [some (.inr (.inr (some 69))), some (.inl _), some (.inl _), some (.inl _)] mt_245 (Nat.le_of_ble_eq_true rfl) rfl ?_
    refine ar_ldA rfl rfl ?_
    refine ar_ldI rfl rfl ?_
    refine ar_inl (mc := 0) (ms := 0) rfl (rcv_of (hr.at 69 (by decide) (by decide) rfl)) (Nat.le_of_ble_eq_true rfl) (Nat.le_of_ble_eq_true rfl) (by omega) (by omega) ?_
    refine ac_ink [some (.inr (.inr (some 69))), some (.inl _)] mt_233 (Nat.le_of_ble_eq_true rfl) rfl ?_
    refine ar_ldI rfl rfl ?_
    refine ar_push rfl ?_
    refine ar_ldA rfl rfl ?_
    refine ar_get rfl (hr.at 69 (by decide) (by decide) rfl) rfl ?_
    refine ar_push rfl ?_
    refine ar_bink (z := (-1)) rfl (by decide) ?_
    refine ar_callv rfl rfl (Nat.le_of_ble_eq_true rfl) (Nat.le_of_ble_eq_true rfl) rfl (sp_in _ _ _ _ _) ?_
    refine ar_ret rfl (bi_ret _) ?_
    show aRun _ (aCall Mt _) _ 5 (_, [_], _, _, _)
    refine ar_if1t rfl (bi_e0t (wi_n1 _)) ?_
    refine ar_push rfl ?_
    refine ar_ret rfl rfl ?_
    exact ⟨rfl, hJ _ _ _⟩

set_option maxRecDepth 20000 in
set_option maxHeartbeats 4000000 in
theorem p1_15 (x1 : Int32) (x2 : Int32) (x3 : Int32) (J : aH → Nat → Nat → Prop) (hJ : ∀ h a b, J h a b) (kc ks : Nat) (hkc : 1000 ≤ kc) (hks : 100000 ≤ ks) : aPairI 0 69 139 252 [.inl x1, .inl x2, .inl x3] J hF kc ks := by
  refine ⟨0, 0, _, by omega, by omega, rfl, ?_⟩
  refine ac_ink [some (.inr (.inr (some 0))), some (.inl _), some (.inl _), some (.inl _), none, none, none] mt_139 (Nat.le_of_ble_eq_true rfl) rfl ?_
  refine ar_ldA rfl rfl ?_
  refine ar_get rfl rfl rfl ?_
  refine ar_ldI rfl rfl ?_
  refine ar_inl (mc := 0) (ms := 0) rfl (rcv_of rfl) (Nat.le_of_ble_eq_true rfl) (Nat.le_of_ble_eq_true rfl) (by omega) (by omega) ?_
  refine ac_ink [some (.inr (.inr (some 15))), some (.inl _)] mt_8 (Nat.le_of_ble_eq_true rfl) rfl ?_
  refine ar_ldI rfl rfl ?_
  refine ar_if1 rfl (fun c1 => ?_) (fun c1 => ?_)
  · refine ar_push rfl ?_
    refine ar_ret rfl rfl ?_
    show aRun _ (aCall Mt _) _ 8 (_, [_], _, _, _)
    refine ar_svAk [some (.inr (.inr (some 0))), some (.inl _), some (.inl _), some (.inl _), some (.inr (.inr none)), none, none] rfl rfl ?_
    refine ar_ldA rfl rfl ?_
    refine ar_get rfl rfl rfl ?_
    refine ar_ldI rfl rfl ?_
    refine ar_inl (mc := 0) (ms := 0) rfl (rcv_of rfl) (Nat.le_of_ble_eq_true rfl) (Nat.le_of_ble_eq_true rfl) (by omega) (by omega) ?_
    refine ac_ink [some (.inr (.inr (some 1))), some (.inl _)] mt_60 (Nat.le_of_ble_eq_true rfl) rfl ?_
    refine ar_ldI rfl rfl ?_
    refine ar_if1 rfl (fun c2 => ?_) (fun c2 => ?_)
    · refine ar_push rfl ?_
      refine ar_ret rfl rfl ?_
      show aRun _ (aCall Mt _) _ 18 (_, [_], _, _, _)
      refine ar_svAk [some (.inr (.inr (some 0))), some (.inl _), some (.inl _), some (.inl _), some (.inr (.inr none)), some (.inr (.inr none)), none] rfl rfl ?_
      refine ar_ldA rfl rfl ?_
      refine ar_nulN rfl ?_
      refine ar_push rfl ?_
      refine ar_ret rfl rfl ?_
      refine ⟨_, 0, 0, _, rfl, Nat.zero_le _, Nat.zero_le _, rfl, ?_⟩
      refine rgen rFr_F (fun g hr => ?_)
      refine ac_ink [some (.inr (.inr (some 69))), some (.inl _), some (.inl _), some (.inl _), none, none] mt_252 (Nat.le_of_ble_eq_true rfl) rfl ?_
      refine ar_ldA rfl rfl ?_
      refine ar_ldI rfl rfl ?_
      refine ar_inl (mc := 0) (ms := 0) rfl (rcv_of (hr.at 69 (by decide) (by decide) rfl)) (Nat.le_of_ble_eq_true rfl) (Nat.le_of_ble_eq_true rfl) (by omega) (by omega) ?_
      refine ac_ink [some (.inr (.inr (some 69))), some (.inl _)] mt_233 (Nat.le_of_ble_eq_true rfl) rfl ?_
      refine ar_ldI rfl rfl ?_
      refine ar_push rfl ?_
      refine ar_ldA rfl rfl ?_
      refine ar_get rfl (hr.at 69 (by decide) (by decide) rfl) rfl ?_
      refine ar_push rfl ?_
      refine ar_bink (z := (-1)) rfl (by decide) ?_
      refine ar_callv rfl rfl (Nat.le_of_ble_eq_true rfl) (Nat.le_of_ble_eq_true rfl) rfl (sp_in _ _ _ _ _) ?_
      refine ar_ret rfl (bi_ret _) ?_
      show aRun _ (aCall Mt _) _ 5 (_, [_], _, _, _)
      refine ar_if1t rfl (bi_e0t (wi_n1 _)) ?_
      refine ar_push rfl ?_
      refine ar_ret rfl rfl ?_
      exact ⟨rfl, hJ _ _ _⟩
    · refine ar_ldI rfl rfl ?_
      refine ar_ldA rfl rfl ?_
      refine ar_get rfl rfl rfl ?_
      refine ar_if2t rfl (lt_f c2) ?_
      refine ar_push rfl ?_
      refine ar_ret rfl rfl ?_
      show aRun _ (aCall Mt _) _ 18 (_, [_], _, _, _)
      refine ar_svAk [some (.inr (.inr (some 0))), some (.inl _), some (.inl _), some (.inl _), some (.inr (.inr none)), some (.inr (.inr none)), none] rfl rfl ?_
      refine ar_ldA rfl rfl ?_
      refine ar_nulN rfl ?_
      refine ar_push rfl ?_
      refine ar_ret rfl rfl ?_
      refine ⟨_, 0, 0, _, rfl, Nat.zero_le _, Nat.zero_le _, rfl, ?_⟩
      refine rgen rFr_F (fun g hr => ?_)
      refine ac_ink [some (.inr (.inr (some 69))), some (.inl _), some (.inl _), some (.inl _), none, none] mt_252 (Nat.le_of_ble_eq_true rfl) rfl ?_
      refine ar_ldA rfl rfl ?_
      refine ar_ldI rfl rfl ?_
      refine ar_inl (mc := 0) (ms := 0) rfl (rcv_of (hr.at 69 (by decide) (by decide) rfl)) (Nat.le_of_ble_eq_true rfl) (Nat.le_of_ble_eq_true rfl) (by omega) (by omega) ?_
      refine ac_ink [some (.inr (.inr (some 69))), some (.inl _)] mt_233 (Nat.le_of_ble_eq_true rfl) rfl ?_
      refine ar_ldI rfl rfl ?_
      refine ar_push rfl ?_
      refine ar_ldA rfl rfl ?_
      refine ar_get rfl (hr.at 69 (by decide) (by decide) rfl) rfl ?_
      refine ar_push rfl ?_
      refine ar_bink (z := (-1)) rfl (by decide) ?_
      refine ar_callv rfl rfl (Nat.le_of_ble_eq_true rfl) (Nat.le_of_ble_eq_true rfl) rfl (sp_in _ _ _ _ _) ?_
      refine ar_ret rfl (bi_ret _) ?_
      show aRun _ (aCall Mt _) _ 5 (_, [_], _, _, _)
      refine ar_if1t rfl (bi_e0t (wi_n1 _)) ?_
      refine ar_push rfl ?_
      refine ar_ret rfl rfl ?_
      exact ⟨rfl, hJ _ _ _⟩
  · refine ar_ldI rfl rfl ?_
    refine ar_ldA rfl rfl ?_
    refine ar_get rfl rfl rfl ?_
    refine ar_if2t rfl (lt_f c1) ?_
    refine ar_push rfl ?_
    refine ar_ret rfl rfl ?_
    show aRun _ (aCall Mt _) _ 8 (_, [_], _, _, _)
    refine ar_svAk [some (.inr (.inr (some 0))), some (.inl _), some (.inl _), some (.inl _), some (.inr (.inr none)), none, none] rfl rfl ?_
    refine ar_ldA rfl rfl ?_
    refine ar_get rfl rfl rfl ?_
    refine ar_ldI rfl rfl ?_
    refine ar_inl (mc := 0) (ms := 0) rfl (rcv_of rfl) (Nat.le_of_ble_eq_true rfl) (Nat.le_of_ble_eq_true rfl) (by omega) (by omega) ?_
    refine ac_ink [some (.inr (.inr (some 1))), some (.inl _)] mt_60 (Nat.le_of_ble_eq_true rfl) rfl ?_
    refine ar_ldI rfl rfl ?_
    refine ar_if1 rfl (fun c3 => ?_) (fun c3 => ?_)
    · refine ar_push rfl ?_
      refine ar_ret rfl rfl ?_
      show aRun _ (aCall Mt _) _ 18 (_, [_], _, _, _)
      refine ar_svAk [some (.inr (.inr (some 0))), some (.inl _), some (.inl _), some (.inl _), some (.inr (.inr none)), some (.inr (.inr none)), none] rfl rfl ?_
      refine ar_ldA rfl rfl ?_
      refine ar_nulN rfl ?_
      refine ar_push rfl ?_
      refine ar_ret rfl rfl ?_
      refine ⟨_, 0, 0, _, rfl, Nat.zero_le _, Nat.zero_le _, rfl, ?_⟩
      refine rgen rFr_F (fun g hr => ?_)
      refine ac_ink [some (.inr (.inr (some 69))), some (.inl _), some (.inl _), some (.inl _), none, none] mt_252 (Nat.le_of_ble_eq_true rfl) rfl ?_
      refine ar_ldA rfl rfl ?_
      refine ar_ldI rfl rfl ?_
      refine ar_inl (mc := 0) (ms := 0) rfl (rcv_of (hr.at 69 (by decide) (by decide) rfl)) (Nat.le_of_ble_eq_true rfl) (Nat.le_of_ble_eq_true rfl) (by omega) (by omega) ?_
      refine ac_ink [some (.inr (.inr (some 69))), some (.inl _)] mt_233 (Nat.le_of_ble_eq_true rfl) rfl ?_
      refine ar_ldI rfl rfl ?_
      refine ar_push rfl ?_
      refine ar_ldA rfl rfl ?_
      refine ar_get rfl (hr.at 69 (by decide) (by decide) rfl) rfl ?_
      refine ar_push rfl ?_
      refine ar_bink (z := (-1)) rfl (by decide) ?_
      refine ar_callv rfl rfl (Nat.le_of_ble_eq_true rfl) (Nat.le_of_ble_eq_true rfl) rfl (sp_in _ _ _ _ _) ?_
      refine ar_ret rfl (bi_ret _) ?_
      show aRun _ (aCall Mt _) _ 5 (_, [_], _, _, _)
      refine ar_if1t rfl (bi_e0t (wi_n1 _)) ?_
      refine ar_push rfl ?_
      refine ar_ret rfl rfl ?_
      exact ⟨rfl, hJ _ _ _⟩
    · refine ar_ldI rfl rfl ?_
      refine ar_ldA rfl rfl ?_
      refine ar_get rfl rfl rfl ?_
      refine ar_if2t rfl (lt_f c3) ?_
      refine ar_push rfl ?_
      refine ar_ret rfl rfl ?_
      show aRun _ (aCall Mt _) _ 18 (_, [_], _, _, _)
      refine ar_svAk [some (.inr (.inr (some 0))), some (.inl _), some (.inl _), some (.inl _), some (.inr (.inr none)), some (.inr (.inr none)), none] rfl rfl ?_
      refine ar_ldA rfl rfl ?_
      refine ar_nulN rfl ?_
      refine ar_push rfl ?_
      refine ar_ret rfl rfl ?_
      refine ⟨_, 0, 0, _, rfl, Nat.zero_le _, Nat.zero_le _, rfl, ?_⟩
      refine rgen rFr_F (fun g hr => ?_)
      refine ac_ink [some (.inr (.inr (some 69))), some (.inl _), some (.inl _), some (.inl _), none, none] mt_252 (Nat.le_of_ble_eq_true rfl) rfl ?_
      refine ar_ldA rfl rfl ?_
      refine ar_ldI rfl rfl ?_
      refine ar_inl (mc := 0) (ms := 0) rfl (rcv_of (hr.at 69 (by decide) (by decide) rfl)) (Nat.le_of_ble_eq_true rfl) (Nat.le_of_ble_eq_true rfl) (by omega) (by omega) ?_
      refine ac_ink [some (.inr (.inr (some 69))), some (.inl _)] mt_233 (Nat.le_of_ble_eq_true rfl) rfl ?_
      refine ar_ldI rfl rfl ?_
      refine ar_push rfl ?_
      refine ar_ldA rfl rfl ?_
      refine ar_get rfl (hr.at 69 (by decide) (by decide) rfl) rfl ?_
      refine ar_push rfl ?_
      refine ar_bink (z := (-1)) rfl (by decide) ?_
      refine ar_callv rfl rfl (Nat.le_of_ble_eq_true rfl) (Nat.le_of_ble_eq_true rfl) rfl (sp_in _ _ _ _ _) ?_
      refine ar_ret rfl (bi_ret _) ?_
      show aRun _ (aCall Mt _) _ 5 (_, [_], _, _, _)
      refine ar_if1t rfl (bi_e0t (wi_n1 _)) ?_
      refine ar_push rfl ?_
      refine ar_ret rfl rfl ?_
      exact ⟨rfl, hJ _ _ _⟩

set_option maxRecDepth 20000 in
set_option maxHeartbeats 4000000 in
theorem p1_16 (x1 : Int32) (x2 : Int32) (x3 : Int32) (J : aH → Nat → Nat → Prop) (hJ : ∀ h a b, J h a b) (kc ks : Nat) (hkc : 1000 ≤ kc) (hks : 100000 ≤ ks) : aPairI 0 69 140 253 [.inl x1, .inl x2, .inl x3] J hF kc ks := by
  refine ⟨0, 0, _, by omega, by omega, rfl, ?_⟩
  refine ac_ink [some (.inr (.inr (some 0))), some (.inl _), some (.inl _), some (.inl _), none, none] mt_140 (Nat.le_of_ble_eq_true rfl) rfl ?_
  refine ar_ldA rfl rfl ?_
  refine ar_get rfl rfl rfl ?_
  refine ar_ldI rfl rfl ?_
  refine ar_inl (mc := 0) (ms := 0) rfl (rcv_of rfl) (Nat.le_of_ble_eq_true rfl) (Nat.le_of_ble_eq_true rfl) (by omega) (by omega) ?_
  refine ac_ink [some (.inr (.inr (some 15))), some (.inl _)] mt_8 (Nat.le_of_ble_eq_true rfl) rfl ?_
  refine ar_ldI rfl rfl ?_
  refine ar_if1 rfl (fun c1 => ?_) (fun c1 => ?_)
  · refine ar_push rfl ?_
    refine ar_ret rfl rfl ?_
    show aRun _ (aCall Mt _) _ 8 (_, [_], _, _, _)
    refine ar_svAk [some (.inr (.inr (some 0))), some (.inl _), some (.inl _), some (.inl _), some (.inr (.inr none)), none] rfl rfl ?_
    refine ar_ldA rfl rfl ?_
    refine ar_get rfl rfl rfl ?_
    refine ar_ldI rfl rfl ?_
    refine ar_inl (mc := 0) (ms := 0) rfl (rcv_of rfl) (Nat.le_of_ble_eq_true rfl) (Nat.le_of_ble_eq_true rfl) (by omega) (by omega) ?_
    refine ac_ink [some (.inr (.inr (some 1))), some (.inl _)] mt_60 (Nat.le_of_ble_eq_true rfl) rfl ?_
    refine ar_ldI rfl rfl ?_
    refine ar_if1 rfl (fun c2 => ?_) (fun c2 => ?_)
    · refine ar_push rfl ?_
      refine ar_ret rfl rfl ?_
      show aRun _ (aCall Mt _) _ 18 (_, [_], _, _, _)
      refine ar_svAk [some (.inr (.inr (some 0))), some (.inl _), some (.inl _), some (.inl _), some (.inr (.inr none)), some (.inr (.inr none))] rfl rfl ?_
      refine ar_ldA rfl rfl ?_
      refine ar_nulN rfl ?_
      refine ar_push rfl ?_
      refine ar_ret rfl rfl ?_
      refine ⟨_, 0, 0, _, rfl, Nat.zero_le _, Nat.zero_le _, rfl, ?_⟩
      refine rgen rFr_F (fun g hr => ?_)
      refine ac_ink [some (.inr (.inr (some 69))), some (.inl _), some (.inl _), some (.inl _), none, none, none, none, none] mt_253 (Nat.le_of_ble_eq_true rfl) rfl ?_
      refine ar_ldA rfl rfl ?_
      refine ar_ldI rfl rfl ?_
      refine ar_inl (mc := 0) (ms := 0) rfl (rcv_of (hr.at 69 (by decide) (by decide) rfl)) (Nat.le_of_ble_eq_true rfl) (Nat.le_of_ble_eq_true rfl) (by omega) (by omega) ?_
      refine ac_ink [some (.inr (.inr (some 69))), some (.inl _)] mt_233 (Nat.le_of_ble_eq_true rfl) rfl ?_
      refine ar_ldI rfl rfl ?_
      refine ar_push rfl ?_
      refine ar_ldA rfl rfl ?_
      refine ar_get rfl (hr.at 69 (by decide) (by decide) rfl) rfl ?_
      refine ar_push rfl ?_
      refine ar_bink (z := (-1)) rfl (by decide) ?_
      refine ar_callv rfl rfl (Nat.le_of_ble_eq_true rfl) (Nat.le_of_ble_eq_true rfl) rfl (sp_in _ _ _ _ _) ?_
      refine ar_ret rfl (bi_ret _) ?_
      show aRun _ (aCall Mt _) _ 5 (_, [_], _, _, _)
      refine ar_if1t rfl (bi_e0t (wi_n1 _)) ?_
      refine ar_push rfl ?_
      refine ar_ret rfl rfl ?_
      exact ⟨rfl, hJ _ _ _⟩
    · refine ar_ldI rfl rfl ?_
      refine ar_ldA rfl rfl ?_
      refine ar_get rfl rfl rfl ?_
      refine ar_if2t rfl (lt_f c2) ?_
      refine ar_push rfl ?_
      refine ar_ret rfl rfl ?_
      show aRun _ (aCall Mt _) _ 18 (_, [_], _, _, _)
      refine ar_svAk [some (.inr (.inr (some 0))), some (.inl _), some (.inl _), some (.inl _), some (.inr (.inr none)), some (.inr (.inr none))] rfl rfl ?_
      refine ar_ldA rfl rfl ?_
      refine ar_nulN rfl ?_
      refine ar_push rfl ?_
      refine ar_ret rfl rfl ?_
      refine ⟨_, 0, 0, _, rfl, Nat.zero_le _, Nat.zero_le _, rfl, ?_⟩
      refine rgen rFr_F (fun g hr => ?_)
      refine ac_ink [some (.inr (.inr (some 69))), some (.inl _), some (.inl _), some (.inl _), none, none, none, none, none] mt_253 (Nat.le_of_ble_eq_true rfl) rfl ?_
      refine ar_ldA rfl rfl ?_
      refine ar_ldI rfl rfl ?_
      refine ar_inl (mc := 0) (ms := 0) rfl (rcv_of (hr.at 69 (by decide) (by decide) rfl)) (Nat.le_of_ble_eq_true rfl) (Nat.le_of_ble_eq_true rfl) (by omega) (by omega) ?_
      refine ac_ink [some (.inr (.inr (some 69))), some (.inl _)] mt_233 (Nat.le_of_ble_eq_true rfl) rfl ?_
      refine ar_ldI rfl rfl ?_
      refine ar_push rfl ?_
      refine ar_ldA rfl rfl ?_
      refine ar_get rfl (hr.at 69 (by decide) (by decide) rfl) rfl ?_
      refine ar_push rfl ?_
      refine ar_bink (z := (-1)) rfl (by decide) ?_
      refine ar_callv rfl rfl (Nat.le_of_ble_eq_true rfl) (Nat.le_of_ble_eq_true rfl) rfl (sp_in _ _ _ _ _) ?_
      refine ar_ret rfl (bi_ret _) ?_
      show aRun _ (aCall Mt _) _ 5 (_, [_], _, _, _)
      refine ar_if1t rfl (bi_e0t (wi_n1 _)) ?_
      refine ar_push rfl ?_
      refine ar_ret rfl rfl ?_
      exact ⟨rfl, hJ _ _ _⟩
  · refine ar_ldI rfl rfl ?_
    refine ar_ldA rfl rfl ?_
    refine ar_get rfl rfl rfl ?_
    refine ar_if2t rfl (lt_f c1) ?_
    refine ar_push rfl ?_
    refine ar_ret rfl rfl ?_
    show aRun _ (aCall Mt _) _ 8 (_, [_], _, _, _)
    refine ar_svAk [some (.inr (.inr (some 0))), some (.inl _), some (.inl _), some (.inl _), some (.inr (.inr none)), none] rfl rfl ?_
    refine ar_ldA rfl rfl ?_
    refine ar_get rfl rfl rfl ?_
    refine ar_ldI rfl rfl ?_
    refine ar_inl (mc := 0) (ms := 0) rfl (rcv_of rfl) (Nat.le_of_ble_eq_true rfl) (Nat.le_of_ble_eq_true rfl) (by omega) (by omega) ?_
    refine ac_ink [some (.inr (.inr (some 1))), some (.inl _)] mt_60 (Nat.le_of_ble_eq_true rfl) rfl ?_
    refine ar_ldI rfl rfl ?_
    refine ar_if1 rfl (fun c3 => ?_) (fun c3 => ?_)
    · refine ar_push rfl ?_
      refine ar_ret rfl rfl ?_
      show aRun _ (aCall Mt _) _ 18 (_, [_], _, _, _)
      refine ar_svAk [some (.inr (.inr (some 0))), some (.inl _), some (.inl _), some (.inl _), some (.inr (.inr none)), some (.inr (.inr none))] rfl rfl ?_
      refine ar_ldA rfl rfl ?_
      refine ar_nulN rfl ?_
      refine ar_push rfl ?_
      refine ar_ret rfl rfl ?_
      refine ⟨_, 0, 0, _, rfl, Nat.zero_le _, Nat.zero_le _, rfl, ?_⟩
      refine rgen rFr_F (fun g hr => ?_)
      refine ac_ink [some (.inr (.inr (some 69))), some (.inl _), some (.inl _), some (.inl _), none, none, none, none, none] mt_253 (Nat.le_of_ble_eq_true rfl) rfl ?_
      refine ar_ldA rfl rfl ?_
      refine ar_ldI rfl rfl ?_
      refine ar_inl (mc := 0) (ms := 0) rfl (rcv_of (hr.at 69 (by decide) (by decide) rfl)) (Nat.le_of_ble_eq_true rfl) (Nat.le_of_ble_eq_true rfl) (by omega) (by omega) ?_
      refine ac_ink [some (.inr (.inr (some 69))), some (.inl _)] mt_233 (Nat.le_of_ble_eq_true rfl) rfl ?_
      refine ar_ldI rfl rfl ?_
      refine ar_push rfl ?_
      refine ar_ldA rfl rfl ?_
      refine ar_get rfl (hr.at 69 (by decide) (by decide) rfl) rfl ?_
      refine ar_push rfl ?_
      refine ar_bink (z := (-1)) rfl (by decide) ?_
      refine ar_callv rfl rfl (Nat.le_of_ble_eq_true rfl) (Nat.le_of_ble_eq_true rfl) rfl (sp_in _ _ _ _ _) ?_
      refine ar_ret rfl (bi_ret _) ?_
      show aRun _ (aCall Mt _) _ 5 (_, [_], _, _, _)
      refine ar_if1t rfl (bi_e0t (wi_n1 _)) ?_
      refine ar_push rfl ?_
      refine ar_ret rfl rfl ?_
      exact ⟨rfl, hJ _ _ _⟩
    · refine ar_ldI rfl rfl ?_
      refine ar_ldA rfl rfl ?_
      refine ar_get rfl rfl rfl ?_
      refine ar_if2t rfl (lt_f c3) ?_
      refine ar_push rfl ?_
      refine ar_ret rfl rfl ?_
      show aRun _ (aCall Mt _) _ 18 (_, [_], _, _, _)
      refine ar_svAk [some (.inr (.inr (some 0))), some (.inl _), some (.inl _), some (.inl _), some (.inr (.inr none)), some (.inr (.inr none))] rfl rfl ?_
      refine ar_ldA rfl rfl ?_
      refine ar_nulN rfl ?_
      refine ar_push rfl ?_
      refine ar_ret rfl rfl ?_
      refine ⟨_, 0, 0, _, rfl, Nat.zero_le _, Nat.zero_le _, rfl, ?_⟩
      refine rgen rFr_F (fun g hr => ?_)
      refine ac_ink [some (.inr (.inr (some 69))), some (.inl _), some (.inl _), some (.inl _), none, none, none, none, none] mt_253 (Nat.le_of_ble_eq_true rfl) rfl ?_
      refine ar_ldA rfl rfl ?_
      refine ar_ldI rfl rfl ?_
      refine ar_inl (mc := 0) (ms := 0) rfl (rcv_of (hr.at 69 (by decide) (by decide) rfl)) (Nat.le_of_ble_eq_true rfl) (Nat.le_of_ble_eq_true rfl) (by omega) (by omega) ?_
      refine ac_ink [some (.inr (.inr (some 69))), some (.inl _)] mt_233 (Nat.le_of_ble_eq_true rfl) rfl ?_
      refine ar_ldI rfl rfl ?_
      refine ar_push rfl ?_
      refine ar_ldA rfl rfl ?_
      refine ar_get rfl (hr.at 69 (by decide) (by decide) rfl) rfl ?_
      refine ar_push rfl ?_
      refine ar_bink (z := (-1)) rfl (by decide) ?_
      refine ar_callv rfl rfl (Nat.le_of_ble_eq_true rfl) (Nat.le_of_ble_eq_true rfl) rfl (sp_in _ _ _ _ _) ?_
      refine ar_ret rfl (bi_ret _) ?_
      show aRun _ (aCall Mt _) _ 5 (_, [_], _, _, _)
      refine ar_if1t rfl (bi_e0t (wi_n1 _)) ?_
      refine ar_push rfl ?_
      refine ar_ret rfl rfl ?_
      exact ⟨rfl, hJ _ _ _⟩

set_option maxRecDepth 20000 in
set_option maxHeartbeats 4000000 in
theorem p1_17 (x1 : Int32) (x2 : Int32) (J : aH → Nat → Nat → Prop) (hJ : ∀ h a b, J h a b) (kc ks : Nat) (hkc : 1000 ≤ kc) (hks : 100000 ≤ ks) : aPairI 0 69 141 255 [.inl x1, .inl x2] J hF kc ks := by
  refine ⟨0, 0, _, by omega, by omega, rfl, ?_⟩
  refine ac_ink [some (.inr (.inr (some 0))), some (.inl _), some (.inl _), none, none, none] mt_141 (Nat.le_of_ble_eq_true rfl) rfl ?_
  refine ar_ldA rfl rfl ?_
  refine ar_get rfl rfl rfl ?_
  refine ar_ldI rfl rfl ?_
  refine ar_inl (mc := 0) (ms := 0) rfl (rcv_of rfl) (Nat.le_of_ble_eq_true rfl) (Nat.le_of_ble_eq_true rfl) (by omega) (by omega) ?_
  refine ac_ink [some (.inr (.inr (some 15))), some (.inl _)] mt_8 (Nat.le_of_ble_eq_true rfl) rfl ?_
  refine ar_ldI rfl rfl ?_
  refine ar_if1 rfl (fun c1 => ?_) (fun c1 => ?_)
  · refine ar_push rfl ?_
    refine ar_ret rfl rfl ?_
    show aRun _ (aCall Mt _) _ 8 (_, [_], _, _, _)
    refine ar_svAk [some (.inr (.inr (some 0))), some (.inl _), some (.inl _), some (.inr (.inr none)), none, none] rfl rfl ?_
    refine ar_ldA rfl rfl ?_
    refine ar_get rfl rfl rfl ?_
    refine ar_ldI rfl rfl ?_
    refine ar_inl (mc := 0) (ms := 0) rfl (rcv_of rfl) (Nat.le_of_ble_eq_true rfl) (Nat.le_of_ble_eq_true rfl) (by omega) (by omega) ?_
    refine ac_ink [some (.inr (.inr (some 1))), some (.inl _)] mt_60 (Nat.le_of_ble_eq_true rfl) rfl ?_
    refine ar_ldI rfl rfl ?_
    refine ar_if1 rfl (fun c2 => ?_) (fun c2 => ?_)
    · refine ar_push rfl ?_
      refine ar_ret rfl rfl ?_
      show aRun _ (aCall Mt _) _ 17 (_, [_], _, _, _)
      refine ar_svAk [some (.inr (.inr (some 0))), some (.inl _), some (.inl _), some (.inr (.inr none)), some (.inr (.inr none)), none] rfl rfl ?_
      refine ar_ldA rfl rfl ?_
      refine ar_nulN rfl ?_
      refine ar_push rfl ?_
      refine ar_ret rfl rfl ?_
      refine ⟨_, 0, 0, _, rfl, Nat.zero_le _, Nat.zero_le _, rfl, ?_⟩
      refine rgen rFr_F (fun g hr => ?_)
      refine ac_ink [some (.inr (.inr (some 69))), some (.inl _), some (.inl _), none] mt_255 (Nat.le_of_ble_eq_true rfl) rfl ?_
      refine ar_ldA rfl rfl ?_
      refine ar_ldI rfl rfl ?_
      refine ar_inl (mc := 0) (ms := 0) rfl (rcv_of (hr.at 69 (by decide) (by decide) rfl)) (Nat.le_of_ble_eq_true rfl) (Nat.le_of_ble_eq_true rfl) (by omega) (by omega) ?_
      refine ac_ink [some (.inr (.inr (some 69))), some (.inl _)] mt_233 (Nat.le_of_ble_eq_true rfl) rfl ?_
      refine ar_ldI rfl rfl ?_
      refine ar_push rfl ?_
      refine ar_ldA rfl rfl ?_
      refine ar_get rfl (hr.at 69 (by decide) (by decide) rfl) rfl ?_
      refine ar_push rfl ?_
      refine ar_bink (z := (-1)) rfl (by decide) ?_
      refine ar_callv rfl rfl (Nat.le_of_ble_eq_true rfl) (Nat.le_of_ble_eq_true rfl) rfl (sp_in _ _ _ _ _) ?_
      refine ar_ret rfl (bi_ret _) ?_
      show aRun _ (aCall Mt _) _ 5 (_, [_], _, _, _)
      refine ar_if1t rfl (bi_e0t (wi_n1 _)) ?_
      refine ar_push rfl ?_
      refine ar_ret rfl rfl ?_
      exact ⟨rfl, hJ _ _ _⟩
    · refine ar_ldI rfl rfl ?_
      refine ar_ldA rfl rfl ?_
      refine ar_get rfl rfl rfl ?_
      refine ar_if2t rfl (lt_f c2) ?_
      refine ar_push rfl ?_
      refine ar_ret rfl rfl ?_
      show aRun _ (aCall Mt _) _ 17 (_, [_], _, _, _)
      refine ar_svAk [some (.inr (.inr (some 0))), some (.inl _), some (.inl _), some (.inr (.inr none)), some (.inr (.inr none)), none] rfl rfl ?_
      refine ar_ldA rfl rfl ?_
      refine ar_nulN rfl ?_
      refine ar_push rfl ?_
      refine ar_ret rfl rfl ?_
      refine ⟨_, 0, 0, _, rfl, Nat.zero_le _, Nat.zero_le _, rfl, ?_⟩
      refine rgen rFr_F (fun g hr => ?_)
      refine ac_ink [some (.inr (.inr (some 69))), some (.inl _), some (.inl _), none] mt_255 (Nat.le_of_ble_eq_true rfl) rfl ?_
      refine ar_ldA rfl rfl ?_
      refine ar_ldI rfl rfl ?_
      refine ar_inl (mc := 0) (ms := 0) rfl (rcv_of (hr.at 69 (by decide) (by decide) rfl)) (Nat.le_of_ble_eq_true rfl) (Nat.le_of_ble_eq_true rfl) (by omega) (by omega) ?_
      refine ac_ink [some (.inr (.inr (some 69))), some (.inl _)] mt_233 (Nat.le_of_ble_eq_true rfl) rfl ?_
      refine ar_ldI rfl rfl ?_
      refine ar_push rfl ?_
      refine ar_ldA rfl rfl ?_
      refine ar_get rfl (hr.at 69 (by decide) (by decide) rfl) rfl ?_
      refine ar_push rfl ?_
      refine ar_bink (z := (-1)) rfl (by decide) ?_
      refine ar_callv rfl rfl (Nat.le_of_ble_eq_true rfl) (Nat.le_of_ble_eq_true rfl) rfl (sp_in _ _ _ _ _) ?_
      refine ar_ret rfl (bi_ret _) ?_
      show aRun _ (aCall Mt _) _ 5 (_, [_], _, _, _)
      refine ar_if1t rfl (bi_e0t (wi_n1 _)) ?_
      refine ar_push rfl ?_
      refine ar_ret rfl rfl ?_
      exact ⟨rfl, hJ _ _ _⟩
  · refine ar_ldI rfl rfl ?_
    refine ar_ldA rfl rfl ?_
    refine ar_get rfl rfl rfl ?_
    refine ar_if2t rfl (lt_f c1) ?_
    refine ar_push rfl ?_
    refine ar_ret rfl rfl ?_
    show aRun _ (aCall Mt _) _ 8 (_, [_], _, _, _)
    refine ar_svAk [some (.inr (.inr (some 0))), some (.inl _), some (.inl _), some (.inr (.inr none)), none, none] rfl rfl ?_
    refine ar_ldA rfl rfl ?_
    refine ar_get rfl rfl rfl ?_
    refine ar_ldI rfl rfl ?_
    refine ar_inl (mc := 0) (ms := 0) rfl (rcv_of rfl) (Nat.le_of_ble_eq_true rfl) (Nat.le_of_ble_eq_true rfl) (by omega) (by omega) ?_
    refine ac_ink [some (.inr (.inr (some 1))), some (.inl _)] mt_60 (Nat.le_of_ble_eq_true rfl) rfl ?_
    refine ar_ldI rfl rfl ?_
    refine ar_if1 rfl (fun c3 => ?_) (fun c3 => ?_)
    · refine ar_push rfl ?_
      refine ar_ret rfl rfl ?_
      show aRun _ (aCall Mt _) _ 17 (_, [_], _, _, _)
      refine ar_svAk [some (.inr (.inr (some 0))), some (.inl _), some (.inl _), some (.inr (.inr none)), some (.inr (.inr none)), none] rfl rfl ?_
      refine ar_ldA rfl rfl ?_
      refine ar_nulN rfl ?_
      refine ar_push rfl ?_
      refine ar_ret rfl rfl ?_
      refine ⟨_, 0, 0, _, rfl, Nat.zero_le _, Nat.zero_le _, rfl, ?_⟩
      refine rgen rFr_F (fun g hr => ?_)
      refine ac_ink [some (.inr (.inr (some 69))), some (.inl _), some (.inl _), none] mt_255 (Nat.le_of_ble_eq_true rfl) rfl ?_
      refine ar_ldA rfl rfl ?_
      refine ar_ldI rfl rfl ?_
      refine ar_inl (mc := 0) (ms := 0) rfl (rcv_of (hr.at 69 (by decide) (by decide) rfl)) (Nat.le_of_ble_eq_true rfl) (Nat.le_of_ble_eq_true rfl) (by omega) (by omega) ?_
      refine ac_ink [some (.inr (.inr (some 69))), some (.inl _)] mt_233 (Nat.le_of_ble_eq_true rfl) rfl ?_
      refine ar_ldI rfl rfl ?_
      refine ar_push rfl ?_
      refine ar_ldA rfl rfl ?_
      refine ar_get rfl (hr.at 69 (by decide) (by decide) rfl) rfl ?_
      refine ar_push rfl ?_
      refine ar_bink (z := (-1)) rfl (by decide) ?_
      refine ar_callv rfl rfl (Nat.le_of_ble_eq_true rfl) (Nat.le_of_ble_eq_true rfl) rfl (sp_in _ _ _ _ _) ?_
      refine ar_ret rfl (bi_ret _) ?_
      show aRun _ (aCall Mt _) _ 5 (_, [_], _, _, _)
      refine ar_if1t rfl (bi_e0t (wi_n1 _)) ?_
      refine ar_push rfl ?_
      refine ar_ret rfl rfl ?_
      exact ⟨rfl, hJ _ _ _⟩
    · refine ar_ldI rfl rfl ?_
      refine ar_ldA rfl rfl ?_
      refine ar_get rfl rfl rfl ?_
      refine ar_if2t rfl (lt_f c3) ?_
      refine ar_push rfl ?_
      refine ar_ret rfl rfl ?_
      show aRun _ (aCall Mt _) _ 17 (_, [_], _, _, _)
      refine ar_svAk [some (.inr (.inr (some 0))), some (.inl _), some (.inl _), some (.inr (.inr none)), some (.inr (.inr none)), none] rfl rfl ?_
      refine ar_ldA rfl rfl ?_
      refine ar_nulN rfl ?_
      refine ar_push rfl ?_
      refine ar_ret rfl rfl ?_
      refine ⟨_, 0, 0, _, rfl, Nat.zero_le _, Nat.zero_le _, rfl, ?_⟩
      refine rgen rFr_F (fun g hr => ?_)
      refine ac_ink [some (.inr (.inr (some 69))), some (.inl _), some (.inl _), none] mt_255 (Nat.le_of_ble_eq_true rfl) rfl ?_
      refine ar_ldA rfl rfl ?_
      refine ar_ldI rfl rfl ?_
      refine ar_inl (mc := 0) (ms := 0) rfl (rcv_of (hr.at 69 (by decide) (by decide) rfl)) (Nat.le_of_ble_eq_true rfl) (Nat.le_of_ble_eq_true rfl) (by omega) (by omega) ?_
      refine ac_ink [some (.inr (.inr (some 69))), some (.inl _)] mt_233 (Nat.le_of_ble_eq_true rfl) rfl ?_
      refine ar_ldI rfl rfl ?_
      refine ar_push rfl ?_
      refine ar_ldA rfl rfl ?_
      refine ar_get rfl (hr.at 69 (by decide) (by decide) rfl) rfl ?_
      refine ar_push rfl ?_
      refine ar_bink (z := (-1)) rfl (by decide) ?_
      refine ar_callv rfl rfl (Nat.le_of_ble_eq_true rfl) (Nat.le_of_ble_eq_true rfl) rfl (sp_in _ _ _ _ _) ?_
      refine ar_ret rfl (bi_ret _) ?_
      show aRun _ (aCall Mt _) _ 5 (_, [_], _, _, _)
      refine ar_if1t rfl (bi_e0t (wi_n1 _)) ?_
      refine ar_push rfl ?_
      refine ar_ret rfl rfl ?_
      exact ⟨rfl, hJ _ _ _⟩

set_option maxRecDepth 20000 in
set_option maxHeartbeats 4000000 in
theorem p1_18 (x1 : Int32) (x2 : Int32) (J : aH → Nat → Nat → Prop) (hJ : ∀ h a b, J h a b) (kc ks : Nat) (hkc : 1000 ≤ kc) (hks : 100000 ≤ ks) : aPairI 0 69 142 256 [.inl x1, .inl x2] J hF kc ks := by
  refine ⟨0, 0, _, by omega, by omega, rfl, ?_⟩
  refine ac_ink [some (.inr (.inr (some 0))), some (.inl _), some (.inl _), none, none, none] mt_142 (Nat.le_of_ble_eq_true rfl) rfl ?_
  refine ar_ldA rfl rfl ?_
  refine ar_get rfl rfl rfl ?_
  refine ar_ldI rfl rfl ?_
  refine ar_inl (mc := 0) (ms := 0) rfl (rcv_of rfl) (Nat.le_of_ble_eq_true rfl) (Nat.le_of_ble_eq_true rfl) (by omega) (by omega) ?_
  refine ac_ink [some (.inr (.inr (some 15))), some (.inl _)] mt_8 (Nat.le_of_ble_eq_true rfl) rfl ?_
  refine ar_ldI rfl rfl ?_
  refine ar_if1 rfl (fun c1 => ?_) (fun c1 => ?_)
  · refine ar_push rfl ?_
    refine ar_ret rfl rfl ?_
    show aRun _ (aCall Mt _) _ 8 (_, [_], _, _, _)
    refine ar_svAk [some (.inr (.inr (some 0))), some (.inl _), some (.inl _), some (.inr (.inr none)), none, none] rfl rfl ?_
    refine ar_ldA rfl rfl ?_
    refine ar_get rfl rfl rfl ?_
    refine ar_ldI rfl rfl ?_
    refine ar_inl (mc := 0) (ms := 0) rfl (rcv_of rfl) (Nat.le_of_ble_eq_true rfl) (Nat.le_of_ble_eq_true rfl) (by omega) (by omega) ?_
    refine ac_ink [some (.inr (.inr (some 15))), some (.inl _)] mt_8 (Nat.le_of_ble_eq_true rfl) rfl ?_
    refine ar_ldI rfl rfl ?_
    refine ar_if1 rfl (fun c2 => ?_) (fun c2 => ?_)
    · refine ar_push rfl ?_
      refine ar_ret rfl rfl ?_
      show aRun _ (aCall Mt _) _ 17 (_, [_], _, _, _)
      refine ar_svAk [some (.inr (.inr (some 0))), some (.inl _), some (.inl _), some (.inr (.inr none)), some (.inr (.inr none)), none] rfl rfl ?_
      refine ar_ldA rfl rfl ?_
      refine ar_nulN rfl ?_
      refine ar_push rfl ?_
      refine ar_ret rfl rfl ?_
      refine ⟨_, 0, 0, _, rfl, Nat.zero_le _, Nat.zero_le _, rfl, ?_⟩
      refine rgen rFr_F (fun g hr => ?_)
      refine ac_ink [some (.inr (.inr (some 69))), some (.inl _), some (.inl _), none, none, none, none, none, none] mt_256 (Nat.le_of_ble_eq_true rfl) rfl ?_
      refine ar_ldA rfl rfl ?_
      refine ar_ldI rfl rfl ?_
      refine ar_inl (mc := 0) (ms := 0) rfl (rcv_of (hr.at 69 (by decide) (by decide) rfl)) (Nat.le_of_ble_eq_true rfl) (Nat.le_of_ble_eq_true rfl) (by omega) (by omega) ?_
      refine ac_ink [some (.inr (.inr (some 69))), some (.inl _)] mt_233 (Nat.le_of_ble_eq_true rfl) rfl ?_
      refine ar_ldI rfl rfl ?_
      refine ar_push rfl ?_
      refine ar_ldA rfl rfl ?_
      refine ar_get rfl (hr.at 69 (by decide) (by decide) rfl) rfl ?_
      refine ar_push rfl ?_
      refine ar_bink (z := (-1)) rfl (by decide) ?_
      refine ar_callv rfl rfl (Nat.le_of_ble_eq_true rfl) (Nat.le_of_ble_eq_true rfl) rfl (sp_in _ _ _ _ _) ?_
      refine ar_ret rfl (bi_ret _) ?_
      show aRun _ (aCall Mt _) _ 5 (_, [_], _, _, _)
      refine ar_if1t rfl (bi_e0t (wi_n1 _)) ?_
      refine ar_push rfl ?_
      refine ar_ret rfl rfl ?_
      exact ⟨rfl, hJ _ _ _⟩
    · refine ar_ldI rfl rfl ?_
      refine ar_ldA rfl rfl ?_
      refine ar_get rfl rfl rfl ?_
      refine ar_if2t rfl (lt_f c2) ?_
      refine ar_push rfl ?_
      refine ar_ret rfl rfl ?_
      show aRun _ (aCall Mt _) _ 17 (_, [_], _, _, _)
      refine ar_svAk [some (.inr (.inr (some 0))), some (.inl _), some (.inl _), some (.inr (.inr none)), some (.inr (.inr none)), none] rfl rfl ?_
      refine ar_ldA rfl rfl ?_
      refine ar_nulN rfl ?_
      refine ar_push rfl ?_
      refine ar_ret rfl rfl ?_
      refine ⟨_, 0, 0, _, rfl, Nat.zero_le _, Nat.zero_le _, rfl, ?_⟩
      refine rgen rFr_F (fun g hr => ?_)
      refine ac_ink [some (.inr (.inr (some 69))), some (.inl _), some (.inl _), none, none, none, none, none, none] mt_256 (Nat.le_of_ble_eq_true rfl) rfl ?_
      refine ar_ldA rfl rfl ?_
      refine ar_ldI rfl rfl ?_
      refine ar_inl (mc := 0) (ms := 0) rfl (rcv_of (hr.at 69 (by decide) (by decide) rfl)) (Nat.le_of_ble_eq_true rfl) (Nat.le_of_ble_eq_true rfl) (by omega) (by omega) ?_
      refine ac_ink [some (.inr (.inr (some 69))), some (.inl _)] mt_233 (Nat.le_of_ble_eq_true rfl) rfl ?_
      refine ar_ldI rfl rfl ?_
      refine ar_push rfl ?_
      refine ar_ldA rfl rfl ?_
      refine ar_get rfl (hr.at 69 (by decide) (by decide) rfl) rfl ?_
      refine ar_push rfl ?_
      refine ar_bink (z := (-1)) rfl (by decide) ?_
      refine ar_callv rfl rfl (Nat.le_of_ble_eq_true rfl) (Nat.le_of_ble_eq_true rfl) rfl (sp_in _ _ _ _ _) ?_
      refine ar_ret rfl (bi_ret _) ?_
      show aRun _ (aCall Mt _) _ 5 (_, [_], _, _, _)
      refine ar_if1t rfl (bi_e0t (wi_n1 _)) ?_
      refine ar_push rfl ?_
      refine ar_ret rfl rfl ?_
      exact ⟨rfl, hJ _ _ _⟩
  · refine ar_ldI rfl rfl ?_
    refine ar_ldA rfl rfl ?_
    refine ar_get rfl rfl rfl ?_
    refine ar_if2t rfl (lt_f c1) ?_
    refine ar_push rfl ?_
    refine ar_ret rfl rfl ?_
    show aRun _ (aCall Mt _) _ 8 (_, [_], _, _, _)
    refine ar_svAk [some (.inr (.inr (some 0))), some (.inl _), some (.inl _), some (.inr (.inr none)), none, none] rfl rfl ?_
    refine ar_ldA rfl rfl ?_
    refine ar_get rfl rfl rfl ?_
    refine ar_ldI rfl rfl ?_
    refine ar_inl (mc := 0) (ms := 0) rfl (rcv_of rfl) (Nat.le_of_ble_eq_true rfl) (Nat.le_of_ble_eq_true rfl) (by omega) (by omega) ?_
    refine ac_ink [some (.inr (.inr (some 15))), some (.inl _)] mt_8 (Nat.le_of_ble_eq_true rfl) rfl ?_
    refine ar_ldI rfl rfl ?_
    refine ar_if1 rfl (fun c3 => ?_) (fun c3 => ?_)
    · refine ar_push rfl ?_
      refine ar_ret rfl rfl ?_
      show aRun _ (aCall Mt _) _ 17 (_, [_], _, _, _)
      refine ar_svAk [some (.inr (.inr (some 0))), some (.inl _), some (.inl _), some (.inr (.inr none)), some (.inr (.inr none)), none] rfl rfl ?_
      refine ar_ldA rfl rfl ?_
      refine ar_nulN rfl ?_
      refine ar_push rfl ?_
      refine ar_ret rfl rfl ?_
      refine ⟨_, 0, 0, _, rfl, Nat.zero_le _, Nat.zero_le _, rfl, ?_⟩
      refine rgen rFr_F (fun g hr => ?_)
      refine ac_ink [some (.inr (.inr (some 69))), some (.inl _), some (.inl _), none, none, none, none, none, none] mt_256 (Nat.le_of_ble_eq_true rfl) rfl ?_
      refine ar_ldA rfl rfl ?_
      refine ar_ldI rfl rfl ?_
      refine ar_inl (mc := 0) (ms := 0) rfl (rcv_of (hr.at 69 (by decide) (by decide) rfl)) (Nat.le_of_ble_eq_true rfl) (Nat.le_of_ble_eq_true rfl) (by omega) (by omega) ?_
      refine ac_ink [some (.inr (.inr (some 69))), some (.inl _)] mt_233 (Nat.le_of_ble_eq_true rfl) rfl ?_
      refine ar_ldI rfl rfl ?_
      refine ar_push rfl ?_
      refine ar_ldA rfl rfl ?_
      refine ar_get rfl (hr.at 69 (by decide) (by decide) rfl) rfl ?_
      refine ar_push rfl ?_
      refine ar_bink (z := (-1)) rfl (by decide) ?_
      refine ar_callv rfl rfl (Nat.le_of_ble_eq_true rfl) (Nat.le_of_ble_eq_true rfl) rfl (sp_in _ _ _ _ _) ?_
      refine ar_ret rfl (bi_ret _) ?_
      show aRun _ (aCall Mt _) _ 5 (_, [_], _, _, _)
      refine ar_if1t rfl (bi_e0t (wi_n1 _)) ?_
      refine ar_push rfl ?_
      refine ar_ret rfl rfl ?_
      exact ⟨rfl, hJ _ _ _⟩
    · refine ar_ldI rfl rfl ?_
      refine ar_ldA rfl rfl ?_
      refine ar_get rfl rfl rfl ?_
      refine ar_if2t rfl (lt_f c3) ?_
      refine ar_push rfl ?_
      refine ar_ret rfl rfl ?_
      show aRun _ (aCall Mt _) _ 17 (_, [_], _, _, _)
      refine ar_svAk [some (.inr (.inr (some 0))), some (.inl _), some (.inl _), some (.inr (.inr none)), some (.inr (.inr none)), none] rfl rfl ?_
      refine ar_ldA rfl rfl ?_
      refine ar_nulN rfl ?_
      refine ar_push rfl ?_
      refine ar_ret rfl rfl ?_
      refine ⟨_, 0, 0, _, rfl, Nat.zero_le _, Nat.zero_le _, rfl, ?_⟩
      refine rgen rFr_F (fun g hr => ?_)
      refine ac_ink [some (.inr (.inr (some 69))), some (.inl _), some (.inl _), none, none, none, none, none, none] mt_256 (Nat.le_of_ble_eq_true rfl) rfl ?_
      refine ar_ldA rfl rfl ?_
      refine ar_ldI rfl rfl ?_
      refine ar_inl (mc := 0) (ms := 0) rfl (rcv_of (hr.at 69 (by decide) (by decide) rfl)) (Nat.le_of_ble_eq_true rfl) (Nat.le_of_ble_eq_true rfl) (by omega) (by omega) ?_
      refine ac_ink [some (.inr (.inr (some 69))), some (.inl _)] mt_233 (Nat.le_of_ble_eq_true rfl) rfl ?_
      refine ar_ldI rfl rfl ?_
      refine ar_push rfl ?_
      refine ar_ldA rfl rfl ?_
      refine ar_get rfl (hr.at 69 (by decide) (by decide) rfl) rfl ?_
      refine ar_push rfl ?_
      refine ar_bink (z := (-1)) rfl (by decide) ?_
      refine ar_callv rfl rfl (Nat.le_of_ble_eq_true rfl) (Nat.le_of_ble_eq_true rfl) rfl (sp_in _ _ _ _ _) ?_
      refine ar_ret rfl (bi_ret _) ?_
      show aRun _ (aCall Mt _) _ 5 (_, [_], _, _, _)
      refine ar_if1t rfl (bi_e0t (wi_n1 _)) ?_
      refine ar_push rfl ?_
      refine ar_ret rfl rfl ?_
      exact ⟨rfl, hJ _ _ _⟩

set_option maxRecDepth 20000 in
set_option maxHeartbeats 4000000 in
theorem p1_19 (x1 : Int32) (x2 : Int32) (J : aH → Nat → Nat → Prop) (hJ : ∀ h a b, J h a b) (kc ks : Nat) (hkc : 1000 ≤ kc) (hks : 100000 ≤ ks) : aPairI 0 69 143 258 [.inl x1, .inl x2] J hF kc ks := by
  refine ⟨0, 0, _, by omega, by omega, rfl, ?_⟩
  refine ac_ink [some (.inr (.inr (some 0))), some (.inl _), some (.inl _), none, none, none, none, none] mt_143 (Nat.le_of_ble_eq_true rfl) rfl ?_
  refine ar_ldA rfl rfl ?_
  refine ar_get rfl rfl rfl ?_
  refine ar_ldI rfl rfl ?_
  refine ar_inl (mc := 0) (ms := 0) rfl (rcv_of rfl) (Nat.le_of_ble_eq_true rfl) (Nat.le_of_ble_eq_true rfl) (by omega) (by omega) ?_
  refine ac_ink [some (.inr (.inr (some 15))), some (.inl _)] mt_8 (Nat.le_of_ble_eq_true rfl) rfl ?_
  refine ar_ldI rfl rfl ?_
  refine ar_if1 rfl (fun c1 => ?_) (fun c1 => ?_)
  · refine ar_push rfl ?_
    refine ar_ret rfl rfl ?_
    show aRun _ (aCall Mt _) _ 8 (_, [_], _, _, _)
    refine ar_svAk [some (.inr (.inr (some 0))), some (.inl _), some (.inl _), some (.inr (.inr none)), none, none, none, none] rfl rfl ?_
    refine ar_ldA rfl rfl ?_
    refine ar_get rfl rfl rfl ?_
    refine ar_ldI rfl rfl ?_
    refine ar_inl (mc := 0) (ms := 0) rfl (rcv_of rfl) (Nat.le_of_ble_eq_true rfl) (Nat.le_of_ble_eq_true rfl) (by omega) (by omega) ?_
    refine ac_ink [some (.inr (.inr (some 15))), some (.inl _)] mt_8 (Nat.le_of_ble_eq_true rfl) rfl ?_
    refine ar_ldI rfl rfl ?_
    refine ar_if1 rfl (fun c2 => ?_) (fun c2 => ?_)
    · refine ar_push rfl ?_
      refine ar_ret rfl rfl ?_
      show aRun _ (aCall Mt _) _ 17 (_, [_], _, _, _)
      refine ar_svAk [some (.inr (.inr (some 0))), some (.inl _), some (.inl _), some (.inr (.inr none)), some (.inr (.inr none)), none, none, none] rfl rfl ?_
      refine ar_ldA rfl rfl ?_
      refine ar_nulN rfl ?_
      refine ar_push rfl ?_
      refine ar_ret rfl rfl ?_
      refine ⟨_, 0, 0, _, rfl, Nat.zero_le _, Nat.zero_le _, rfl, ?_⟩
      refine rgen rFr_F (fun g hr => ?_)
      refine ac_ink [some (.inr (.inr (some 69))), some (.inl _), some (.inl _), none, none, none] mt_258 (Nat.le_of_ble_eq_true rfl) rfl ?_
      refine ar_ldA rfl rfl ?_
      refine ar_ldI rfl rfl ?_
      refine ar_inl (mc := 0) (ms := 0) rfl (rcv_of (hr.at 69 (by decide) (by decide) rfl)) (Nat.le_of_ble_eq_true rfl) (Nat.le_of_ble_eq_true rfl) (by omega) (by omega) ?_
      refine ac_ink [some (.inr (.inr (some 69))), some (.inl _)] mt_233 (Nat.le_of_ble_eq_true rfl) rfl ?_
      refine ar_ldI rfl rfl ?_
      refine ar_push rfl ?_
      refine ar_ldA rfl rfl ?_
      refine ar_get rfl (hr.at 69 (by decide) (by decide) rfl) rfl ?_
      refine ar_push rfl ?_
      refine ar_bink (z := (-1)) rfl (by decide) ?_
      refine ar_callv rfl rfl (Nat.le_of_ble_eq_true rfl) (Nat.le_of_ble_eq_true rfl) rfl (sp_in _ _ _ _ _) ?_
      refine ar_ret rfl (bi_ret _) ?_
      show aRun _ (aCall Mt _) _ 5 (_, [_], _, _, _)
      refine ar_if1t rfl (bi_e0t (wi_n1 _)) ?_
      refine ar_push rfl ?_
      refine ar_ret rfl rfl ?_
      exact ⟨rfl, hJ _ _ _⟩
    · refine ar_ldI rfl rfl ?_
      refine ar_ldA rfl rfl ?_
      refine ar_get rfl rfl rfl ?_
      refine ar_if2t rfl (lt_f c2) ?_
      refine ar_push rfl ?_
      refine ar_ret rfl rfl ?_
      show aRun _ (aCall Mt _) _ 17 (_, [_], _, _, _)
      refine ar_svAk [some (.inr (.inr (some 0))), some (.inl _), some (.inl _), some (.inr (.inr none)), some (.inr (.inr none)), none, none, none] rfl rfl ?_
      refine ar_ldA rfl rfl ?_
      refine ar_nulN rfl ?_
      refine ar_push rfl ?_
      refine ar_ret rfl rfl ?_
      refine ⟨_, 0, 0, _, rfl, Nat.zero_le _, Nat.zero_le _, rfl, ?_⟩
      refine rgen rFr_F (fun g hr => ?_)
      refine ac_ink [some (.inr (.inr (some 69))), some (.inl _), some (.inl _), none, none, none] mt_258 (Nat.le_of_ble_eq_true rfl) rfl ?_
      refine ar_ldA rfl rfl ?_
      refine ar_ldI rfl rfl ?_
      refine ar_inl (mc := 0) (ms := 0) rfl (rcv_of (hr.at 69 (by decide) (by decide) rfl)) (Nat.le_of_ble_eq_true rfl) (Nat.le_of_ble_eq_true rfl) (by omega) (by omega) ?_
      refine ac_ink [some (.inr (.inr (some 69))), some (.inl _)] mt_233 (Nat.le_of_ble_eq_true rfl) rfl ?_
      refine ar_ldI rfl rfl ?_
      refine ar_push rfl ?_
      refine ar_ldA rfl rfl ?_
      refine ar_get rfl (hr.at 69 (by decide) (by decide) rfl) rfl ?_
      refine ar_push rfl ?_
      refine ar_bink (z := (-1)) rfl (by decide) ?_
      refine ar_callv rfl rfl (Nat.le_of_ble_eq_true rfl) (Nat.le_of_ble_eq_true rfl) rfl (sp_in _ _ _ _ _) ?_
      refine ar_ret rfl (bi_ret _) ?_
      show aRun _ (aCall Mt _) _ 5 (_, [_], _, _, _)
      refine ar_if1t rfl (bi_e0t (wi_n1 _)) ?_
      refine ar_push rfl ?_
      refine ar_ret rfl rfl ?_
      exact ⟨rfl, hJ _ _ _⟩
  · refine ar_ldI rfl rfl ?_
    refine ar_ldA rfl rfl ?_
    refine ar_get rfl rfl rfl ?_
    refine ar_if2t rfl (lt_f c1) ?_
    refine ar_push rfl ?_
    refine ar_ret rfl rfl ?_
    show aRun _ (aCall Mt _) _ 8 (_, [_], _, _, _)
    refine ar_svAk [some (.inr (.inr (some 0))), some (.inl _), some (.inl _), some (.inr (.inr none)), none, none, none, none] rfl rfl ?_
    refine ar_ldA rfl rfl ?_
    refine ar_get rfl rfl rfl ?_
    refine ar_ldI rfl rfl ?_
    refine ar_inl (mc := 0) (ms := 0) rfl (rcv_of rfl) (Nat.le_of_ble_eq_true rfl) (Nat.le_of_ble_eq_true rfl) (by omega) (by omega) ?_
    refine ac_ink [some (.inr (.inr (some 15))), some (.inl _)] mt_8 (Nat.le_of_ble_eq_true rfl) rfl ?_
    refine ar_ldI rfl rfl ?_
    refine ar_if1 rfl (fun c3 => ?_) (fun c3 => ?_)
    · refine ar_push rfl ?_
      refine ar_ret rfl rfl ?_
      show aRun _ (aCall Mt _) _ 17 (_, [_], _, _, _)
      refine ar_svAk [some (.inr (.inr (some 0))), some (.inl _), some (.inl _), some (.inr (.inr none)), some (.inr (.inr none)), none, none, none] rfl rfl ?_
      refine ar_ldA rfl rfl ?_
      refine ar_nulN rfl ?_
      refine ar_push rfl ?_
      refine ar_ret rfl rfl ?_
      refine ⟨_, 0, 0, _, rfl, Nat.zero_le _, Nat.zero_le _, rfl, ?_⟩
      refine rgen rFr_F (fun g hr => ?_)
      refine ac_ink [some (.inr (.inr (some 69))), some (.inl _), some (.inl _), none, none, none] mt_258 (Nat.le_of_ble_eq_true rfl) rfl ?_
      refine ar_ldA rfl rfl ?_
      refine ar_ldI rfl rfl ?_
      refine ar_inl (mc := 0) (ms := 0) rfl (rcv_of (hr.at 69 (by decide) (by decide) rfl)) (Nat.le_of_ble_eq_true rfl) (Nat.le_of_ble_eq_true rfl) (by omega) (by omega) ?_
      refine ac_ink [some (.inr (.inr (some 69))), some (.inl _)] mt_233 (Nat.le_of_ble_eq_true rfl) rfl ?_
      refine ar_ldI rfl rfl ?_
      refine ar_push rfl ?_
      refine ar_ldA rfl rfl ?_
      refine ar_get rfl (hr.at 69 (by decide) (by decide) rfl) rfl ?_
      refine ar_push rfl ?_
      refine ar_bink (z := (-1)) rfl (by decide) ?_
      refine ar_callv rfl rfl (Nat.le_of_ble_eq_true rfl) (Nat.le_of_ble_eq_true rfl) rfl (sp_in _ _ _ _ _) ?_
      refine ar_ret rfl (bi_ret _) ?_
      show aRun _ (aCall Mt _) _ 5 (_, [_], _, _, _)
      refine ar_if1t rfl (bi_e0t (wi_n1 _)) ?_
      refine ar_push rfl ?_
      refine ar_ret rfl rfl ?_
      exact ⟨rfl, hJ _ _ _⟩
    · refine ar_ldI rfl rfl ?_
      refine ar_ldA rfl rfl ?_
      refine ar_get rfl rfl rfl ?_
      refine ar_if2t rfl (lt_f c3) ?_
      refine ar_push rfl ?_
      refine ar_ret rfl rfl ?_
      show aRun _ (aCall Mt _) _ 17 (_, [_], _, _, _)
      refine ar_svAk [some (.inr (.inr (some 0))), some (.inl _), some (.inl _), some (.inr (.inr none)), some (.inr (.inr none)), none, none, none] rfl rfl ?_
      refine ar_ldA rfl rfl ?_
      refine ar_nulN rfl ?_
      refine ar_push rfl ?_
      refine ar_ret rfl rfl ?_
      refine ⟨_, 0, 0, _, rfl, Nat.zero_le _, Nat.zero_le _, rfl, ?_⟩
      refine rgen rFr_F (fun g hr => ?_)
      refine ac_ink [some (.inr (.inr (some 69))), some (.inl _), some (.inl _), none, none, none] mt_258 (Nat.le_of_ble_eq_true rfl) rfl ?_
      refine ar_ldA rfl rfl ?_
      refine ar_ldI rfl rfl ?_
      refine ar_inl (mc := 0) (ms := 0) rfl (rcv_of (hr.at 69 (by decide) (by decide) rfl)) (Nat.le_of_ble_eq_true rfl) (Nat.le_of_ble_eq_true rfl) (by omega) (by omega) ?_
      refine ac_ink [some (.inr (.inr (some 69))), some (.inl _)] mt_233 (Nat.le_of_ble_eq_true rfl) rfl ?_
      refine ar_ldI rfl rfl ?_
      refine ar_push rfl ?_
      refine ar_ldA rfl rfl ?_
      refine ar_get rfl (hr.at 69 (by decide) (by decide) rfl) rfl ?_
      refine ar_push rfl ?_
      refine ar_bink (z := (-1)) rfl (by decide) ?_
      refine ar_callv rfl rfl (Nat.le_of_ble_eq_true rfl) (Nat.le_of_ble_eq_true rfl) rfl (sp_in _ _ _ _ _) ?_
      refine ar_ret rfl (bi_ret _) ?_
      show aRun _ (aCall Mt _) _ 5 (_, [_], _, _, _)
      refine ar_if1t rfl (bi_e0t (wi_n1 _)) ?_
      refine ar_push rfl ?_
      refine ar_ret rfl rfl ?_
      exact ⟨rfl, hJ _ _ _⟩

set_option maxRecDepth 20000 in
set_option maxHeartbeats 4000000 in
theorem p1_23 (x1 : Int32) (x2 : Int32) (J : aH → Nat → Nat → Prop) (hJ : ∀ h a b, J h a b) (kc ks : Nat) (hkc : 1000 ≤ kc) (hks : 100000 ≤ ks) : aPairI 0 69 147 267 [.inl x1, .inl x2] J hF kc ks := by
  refine ⟨0, 0, _, by omega, by omega, rfl, ?_⟩
  refine ac_ink [some (.inr (.inr (some 0))), some (.inl _), some (.inl _)] mt_147 (Nat.le_of_ble_eq_true rfl) rfl ?_
  refine ar_ldI rfl rfl ?_
  refine ar_inl (mc := 0) (ms := 0) rfl rfl (Nat.le_of_ble_eq_true rfl) (Nat.le_of_ble_eq_true rfl) (by omega) (by omega) ?_
  refine ac_ink [some (.inl _)] mt_174 (Nat.le_of_ble_eq_true rfl) rfl ?_
  refine ar_ldI rfl rfl ?_
  refine ar_push rfl ?_
  refine ar_push rfl ?_
  refine ar_callv rfl rfl (Nat.le_of_ble_eq_true rfl) (Nat.le_of_ble_eq_true rfl) rfl (sp_within _ _ _ _ _) ?_
  refine ar_ret rfl (bi_ret _) ?_
  show aRun _ (aCall Mt _) _ 4 (_, [_], _, _, _)
  refine ar_eqB rfl (fun c1 => ?_) (fun c1 => ?_)
  · refine ar_push rfl ?_
    refine ar_ret rfl rfl ?_
    refine ⟨_, 0, 0, _, rfl, Nat.zero_le _, Nat.zero_le _, rfl, ?_⟩
    refine rgen rFr_F (fun g hr => ?_)
    refine ac_ink [some (.inr (.inr (some 69))), some (.inl _), some (.inl _)] mt_267 (Nat.le_of_ble_eq_true rfl) rfl ?_
    refine ar_ldI rfl rfl ?_
    refine ar_inl (mc := 0) (ms := 0) rfl rfl (Nat.le_of_ble_eq_true rfl) (Nat.le_of_ble_eq_true rfl) (by omega) (by omega) ?_
    refine ac_ink [some (.inl _)] mt_189 (Nat.le_of_ble_eq_true rfl) rfl ?_
    refine ar_ldI rfl rfl ?_
    refine ar_push rfl ?_
    refine ar_push rfl ?_
    refine ar_callv rfl rfl (Nat.le_of_ble_eq_true rfl) (Nat.le_of_ble_eq_true rfl) rfl (sp_in _ _ _ _ _) ?_
    refine ar_ret rfl (bi_ret _) ?_
    show aRun _ (aCall Mt _) _ 4 (_, [_], _, _, _)
    refine ar_if1t rfl (bi_e0t c1) ?_
    refine ar_push rfl ?_
    refine ar_ret rfl rfl ?_
    exact ⟨rfl, hJ _ _ _⟩
  · refine ar_ldI rfl rfl ?_
    refine ar_push rfl ?_
    refine ar_push rfl ?_
    refine ar_callv rfl rfl (Nat.le_of_ble_eq_true rfl) (Nat.le_of_ble_eq_true rfl) rfl (sp_within _ _ _ _ _) ?_
    refine ar_neB rfl (fun c2 => ?_) (fun c2 => ?_)
    · refine ar_ldA rfl rfl ?_
      refine ar_get rfl rfl rfl ?_
      refine ar_get rfl rfl rfl ?_
      refine ar_push rfl ?_
      refine ar_if2t rfl (by decide) ?_
      refine ar_ldA rfl rfl ?_
      refine ar_get rfl rfl rfl ?_
      refine ar_ldI rfl rfl ?_
      refine ar_ldI rfl rfl ?_
      refine ar_inl (mc := 0) (ms := 0) rfl (rcv_of rfl) (Nat.le_of_ble_eq_true rfl) (Nat.le_of_ble_eq_true rfl) (by omega) (by omega) ?_
      refine ac_ink [some (.inr (.inr (some 52))), some (.inl _), some (.inl _)] mt_27 (Nat.le_of_ble_eq_true rfl) rfl ?_
      refine ar_ldA rfl rfl ?_
      refine ar_get rfl rfl rfl ?_
      refine ar_push rfl ?_
      refine ar_if2t rfl (by decide) ?_
      refine ar_ldA rfl rfl ?_
      refine ar_get rfl rfl rfl ?_
      refine ar_ldA rfl rfl ?_
      refine ar_get rfl rfl rfl ?_
      refine ar_ldI rfl rfl ?_
      refine ar_ast rfl rfl (by decide) (Nat.le_of_ble_eq_true rfl) ?_
      refine ar_ldA rfl rfl ?_
      refine ar_get rfl (hs_ne (by decide) rfl) rfl ?_
      refine ar_ldA rfl rfl ?_
      refine ar_get rfl (hs_ne (by decide) rfl) rfl ?_
      refine ar_ldI rfl rfl ?_
      refine ar_ast rfl (hs_ne (by decide) rfl) (by decide) (Nat.le_of_ble_eq_true rfl) ?_
      refine ar_ldA rfl rfl ?_
      refine ar_dup rfl rfl ?_
      refine ar_get rfl (hs_ne (by decide) (hs_ne (by decide) rfl)) rfl ?_
      refine ar_push rfl ?_
      refine ar_bink (z := 1) rfl (by decide) ?_
      refine ar_put rfl (hs_ne (by decide) (hs_ne (by decide) rfl)) (Nat.le_of_ble_eq_true rfl) rfl ?_
      refine ar_ldA rfl rfl ?_
      refine ar_get rfl (hs_eq (hs_ne (by decide) (hs_ne (by decide) rfl))) rfl ?_
      refine ar_ret rfl rfl ?_
      show aRun _ (aCall Mt _) _ 43 (_, [_], _, _, _)
      refine ar_ret rfl rfl ?_
      refine ⟨_, 0, 0, _, rfl, Nat.zero_le _, Nat.zero_le _, (hs_ne (by decide) (hs_ne (by decide) (hs_ne (by decide) rfl))), ?_⟩
      refine rgen (((rFr_F.sets (by decide)).sets (by decide)).sets (by decide)) (fun g hr => ?_)
      refine ac_ink [some (.inr (.inr (some 69))), some (.inl _), some (.inl _)] mt_267 (Nat.le_of_ble_eq_true rfl) rfl ?_
      refine ar_ldI rfl rfl ?_
      refine ar_inl (mc := 0) (ms := 0) rfl rfl (Nat.le_of_ble_eq_true rfl) (Nat.le_of_ble_eq_true rfl) (by omega) (by omega) ?_
      refine ac_ink [some (.inl _)] mt_189 (Nat.le_of_ble_eq_true rfl) rfl ?_
      refine ar_ldI rfl rfl ?_
      refine ar_push rfl ?_
      refine ar_push rfl ?_
      refine ar_callv rfl rfl (Nat.le_of_ble_eq_true rfl) (Nat.le_of_ble_eq_true rfl) rfl (sp_in _ _ _ _ _) ?_
      refine ar_ret rfl (bi_ret _) ?_
      show aRun _ (aCall Mt _) _ 4 (_, [_], _, _, _)
      refine ar_if1f rfl (bi_e0f c1) ?_
      refine ar_ldI rfl rfl ?_
      refine ar_push rfl ?_
      refine ar_push rfl ?_
      refine ar_callv rfl rfl (Nat.le_of_ble_eq_true rfl) (Nat.le_of_ble_eq_true rfl) rfl (sp_in _ _ _ _ _) ?_
      refine ar_if1t rfl (bi_n0t c2) ?_
      refine ar_ldA rfl rfl ?_
      refine ar_get rfl (hr.at 69 (by decide) (by decide) rfl) rfl ?_
      refine ar_push rfl ?_
      refine ar_if2t rfl (by decide) ?_
      refine ar_ldA rfl rfl ?_
      refine ar_get rfl (hr.at 69 (by decide) (by decide) rfl) rfl ?_
      refine ar_ldA rfl rfl ?_
      refine ar_get rfl (hr.at 69 (by decide) (by decide) rfl) rfl ?_
      refine ar_ldI rfl rfl ?_
      refine ar_ast rfl (hr.at 107 (by decide) (by decide) rfl) (by decide) (Nat.le_of_ble_eq_true rfl) ?_
      refine ar_ldA rfl rfl ?_
      refine ar_get rfl (hs_ne (by decide) (hr.at 69 (by decide) (by decide) rfl)) rfl ?_
      refine ar_ldA rfl rfl ?_
      refine ar_get rfl (hs_ne (by decide) (hr.at 69 (by decide) (by decide) rfl)) rfl ?_
      refine ar_ldI rfl rfl ?_
      refine ar_ast rfl (hs_ne (by decide) (hr.at 108 (by decide) (by decide) rfl)) (by decide) (Nat.le_of_ble_eq_true rfl) ?_
      refine ar_ldA rfl rfl ?_
      refine ar_dup rfl rfl ?_
      refine ar_get rfl (hs_ne (by decide) (hs_ne (by decide) (hr.at 69 (by decide) (by decide) rfl))) rfl ?_
      refine ar_push rfl ?_
      refine ar_bink (z := 1) rfl (by decide) ?_
      refine ar_put rfl (hs_ne (by decide) (hs_ne (by decide) (hr.at 69 (by decide) (by decide) rfl))) (Nat.le_of_ble_eq_true rfl) rfl ?_
      refine ar_ldA rfl rfl ?_
      refine ar_get rfl (hs_eq (hs_ne (by decide) (hs_ne (by decide) (hr.at 69 (by decide) (by decide) rfl)))) rfl ?_
      refine ar_ret rfl rfl ?_
      exact ⟨rfl, hJ _ _ _⟩
    · refine ar_push rfl ?_
      refine ar_ret rfl rfl ?_
      refine ⟨_, 0, 0, _, rfl, Nat.zero_le _, Nat.zero_le _, rfl, ?_⟩
      refine rgen rFr_F (fun g hr => ?_)
      refine ac_ink [some (.inr (.inr (some 69))), some (.inl _), some (.inl _)] mt_267 (Nat.le_of_ble_eq_true rfl) rfl ?_
      refine ar_ldI rfl rfl ?_
      refine ar_inl (mc := 0) (ms := 0) rfl rfl (Nat.le_of_ble_eq_true rfl) (Nat.le_of_ble_eq_true rfl) (by omega) (by omega) ?_
      refine ac_ink [some (.inl _)] mt_189 (Nat.le_of_ble_eq_true rfl) rfl ?_
      refine ar_ldI rfl rfl ?_
      refine ar_push rfl ?_
      refine ar_push rfl ?_
      refine ar_callv rfl rfl (Nat.le_of_ble_eq_true rfl) (Nat.le_of_ble_eq_true rfl) rfl (sp_in _ _ _ _ _) ?_
      refine ar_ret rfl (bi_ret _) ?_
      show aRun _ (aCall Mt _) _ 4 (_, [_], _, _, _)
      refine ar_if1f rfl (bi_e0f c1) ?_
      refine ar_ldI rfl rfl ?_
      refine ar_push rfl ?_
      refine ar_push rfl ?_
      refine ar_callv rfl rfl (Nat.le_of_ble_eq_true rfl) (Nat.le_of_ble_eq_true rfl) rfl (sp_in _ _ _ _ _) ?_
      refine ar_if1f rfl (bi_n0f c2) ?_
      refine ar_push rfl ?_
      refine ar_ret rfl rfl ?_
      exact ⟨rfl, hJ _ _ _⟩

set_option maxRecDepth 20000 in
set_option maxHeartbeats 4000000 in
theorem p1_24 (x1 : Int32) (x2 : Int32) (x3 : Int32) (J : aH → Nat → Nat → Prop) (hJ : ∀ h a b, J h a b) (kc ks : Nat) (hkc : 1000 ≤ kc) (hks : 100000 ≤ ks) : aPairI 0 69 148 270 [.inl x1, .inl x2, .inl x3] J hF kc ks := by
  refine ⟨0, 0, _, by omega, by omega, rfl, ?_⟩
  refine ac_ink [some (.inr (.inr (some 0))), some (.inl _), some (.inl _), some (.inl _)] mt_148 (Nat.le_of_ble_eq_true rfl) rfl ?_
  refine ar_ldI rfl rfl ?_
  refine ar_inl (mc := 0) (ms := 0) rfl rfl (Nat.le_of_ble_eq_true rfl) (Nat.le_of_ble_eq_true rfl) (by omega) (by omega) ?_
  refine ac_ink [some (.inl _)] mt_174 (Nat.le_of_ble_eq_true rfl) rfl ?_
  refine ar_ldI rfl rfl ?_
  refine ar_push rfl ?_
  refine ar_push rfl ?_
  refine ar_callv rfl rfl (Nat.le_of_ble_eq_true rfl) (Nat.le_of_ble_eq_true rfl) rfl (sp_within _ _ _ _ _) ?_
  refine ar_ret rfl (bi_ret _) ?_
  show aRun _ (aCall Mt _) _ 4 (_, [_], _, _, _)
  refine ar_eqB rfl (fun c1 => ?_) (fun c1 => ?_)
  · refine ar_push rfl ?_
    refine ar_ret rfl rfl ?_
    refine ⟨_, 0, 0, _, rfl, Nat.zero_le _, Nat.zero_le _, rfl, ?_⟩
    refine rgen rFr_F (fun g hr => ?_)
    refine ac_ink [some (.inr (.inr (some 69))), some (.inl _), some (.inl _), some (.inl _), none, none, none, none, none] mt_270 (Nat.le_of_ble_eq_true rfl) rfl ?_
    refine ar_ldI rfl rfl ?_
    refine ar_inl (mc := 0) (ms := 0) rfl rfl (Nat.le_of_ble_eq_true rfl) (Nat.le_of_ble_eq_true rfl) (by omega) (by omega) ?_
    refine ac_ink [some (.inl _)] mt_189 (Nat.le_of_ble_eq_true rfl) rfl ?_
    refine ar_ldI rfl rfl ?_
    refine ar_push rfl ?_
    refine ar_push rfl ?_
    refine ar_callv rfl rfl (Nat.le_of_ble_eq_true rfl) (Nat.le_of_ble_eq_true rfl) rfl (sp_in _ _ _ _ _) ?_
    refine ar_ret rfl (bi_ret _) ?_
    show aRun _ (aCall Mt _) _ 4 (_, [_], _, _, _)
    refine ar_if1t rfl (bi_e0t c1) ?_
    refine ar_push rfl ?_
    refine ar_ret rfl rfl ?_
    exact ⟨rfl, hJ _ _ _⟩
  · refine ar_ldI rfl rfl ?_
    refine ar_push rfl ?_
    refine ar_push rfl ?_
    refine ar_callv rfl rfl (Nat.le_of_ble_eq_true rfl) (Nat.le_of_ble_eq_true rfl) rfl (sp_within _ _ _ _ _) ?_
    refine ar_eqB rfl (fun c2 => ?_) (fun c2 => ?_)
    · refine ar_push rfl ?_
      refine ar_ret rfl rfl ?_
      refine ⟨_, 0, 0, _, rfl, Nat.zero_le _, Nat.zero_le _, rfl, ?_⟩
      refine rgen rFr_F (fun g hr => ?_)
      refine ac_ink [some (.inr (.inr (some 69))), some (.inl _), some (.inl _), some (.inl _), none, none, none, none, none] mt_270 (Nat.le_of_ble_eq_true rfl) rfl ?_
      refine ar_ldI rfl rfl ?_
      refine ar_inl (mc := 0) (ms := 0) rfl rfl (Nat.le_of_ble_eq_true rfl) (Nat.le_of_ble_eq_true rfl) (by omega) (by omega) ?_
      refine ac_ink [some (.inl _)] mt_189 (Nat.le_of_ble_eq_true rfl) rfl ?_
      refine ar_ldI rfl rfl ?_
      refine ar_push rfl ?_
      refine ar_push rfl ?_
      refine ar_callv rfl rfl (Nat.le_of_ble_eq_true rfl) (Nat.le_of_ble_eq_true rfl) rfl (sp_in _ _ _ _ _) ?_
      refine ar_ret rfl (bi_ret _) ?_
      show aRun _ (aCall Mt _) _ 4 (_, [_], _, _, _)
      refine ar_if1f rfl (bi_e0f c1) ?_
      refine ar_ldI rfl rfl ?_
      refine ar_push rfl ?_
      refine ar_push rfl ?_
      refine ar_callv rfl rfl (Nat.le_of_ble_eq_true rfl) (Nat.le_of_ble_eq_true rfl) rfl (sp_in _ _ _ _ _) ?_
      refine ar_if1t rfl (bi_e0t c2) ?_
      refine ar_push rfl ?_
      refine ar_ret rfl rfl ?_
      exact ⟨rfl, hJ _ _ _⟩
    · refine ar_ldI rfl rfl ?_
      refine ar_push rfl ?_
      refine ar_push rfl ?_
      refine ar_callv rfl rfl (Nat.le_of_ble_eq_true rfl) (Nat.le_of_ble_eq_true rfl) rfl (sp_within _ _ _ _ _) ?_
      refine ar_neB rfl (fun c3 => ?_) (fun c3 => ?_)
      · refine ar_ldA rfl rfl ?_
        refine ar_get rfl rfl rfl ?_
        refine ar_get rfl rfl rfl ?_
        refine ar_push rfl ?_
        refine ar_if2f rfl (by decide) ?_
        refine ar_push rfl ?_
        refine ar_ret rfl rfl ?_
        refine ⟨_, 0, 0, _, rfl, Nat.zero_le _, Nat.zero_le _, rfl, ?_⟩
        refine rgen rFr_F (fun g hr => ?_)
        refine ac_ink [some (.inr (.inr (some 69))), some (.inl _), some (.inl _), some (.inl _), none, none, none, none, none] mt_270 (Nat.le_of_ble_eq_true rfl) rfl ?_
        refine ar_ldI rfl rfl ?_
        refine ar_inl (mc := 0) (ms := 0) rfl rfl (Nat.le_of_ble_eq_true rfl) (Nat.le_of_ble_eq_true rfl) (by omega) (by omega) ?_
        refine ac_ink [some (.inl _)] mt_189 (Nat.le_of_ble_eq_true rfl) rfl ?_
        refine ar_ldI rfl rfl ?_
        refine ar_push rfl ?_
        refine ar_push rfl ?_
        refine ar_callv rfl rfl (Nat.le_of_ble_eq_true rfl) (Nat.le_of_ble_eq_true rfl) rfl (sp_in _ _ _ _ _) ?_
        refine ar_ret rfl (bi_ret _) ?_
        show aRun _ (aCall Mt _) _ 4 (_, [_], _, _, _)
        refine ar_if1f rfl (bi_e0f c1) ?_
        refine ar_ldI rfl rfl ?_
        refine ar_push rfl ?_
        refine ar_push rfl ?_
        refine ar_callv rfl rfl (Nat.le_of_ble_eq_true rfl) (Nat.le_of_ble_eq_true rfl) rfl (sp_in _ _ _ _ _) ?_
        refine ar_if1f rfl (bi_e0f c2) ?_
        refine ar_ldI rfl rfl ?_
        refine ar_push rfl ?_
        refine ar_push rfl ?_
        refine ar_callv rfl rfl (Nat.le_of_ble_eq_true rfl) (Nat.le_of_ble_eq_true rfl) rfl (sp_in _ _ _ _ _) ?_
        refine ar_if1t rfl (bi_n0t c3) ?_
        refine ar_ldA rfl rfl ?_
        refine ar_get rfl (hr.at 69 (by decide) (by decide) rfl) rfl ?_
        refine ar_push rfl ?_
        refine ar_if2f rfl (by decide) ?_
        refine ar_push rfl ?_
        refine ar_ret rfl rfl ?_
        exact ⟨rfl, hJ _ _ _⟩
      · refine ar_push rfl ?_
        refine ar_ret rfl rfl ?_
        refine ⟨_, 0, 0, _, rfl, Nat.zero_le _, Nat.zero_le _, rfl, ?_⟩
        refine rgen rFr_F (fun g hr => ?_)
        refine ac_ink [some (.inr (.inr (some 69))), some (.inl _), some (.inl _), some (.inl _), none, none, none, none, none] mt_270 (Nat.le_of_ble_eq_true rfl) rfl ?_
        refine ar_ldI rfl rfl ?_
        refine ar_inl (mc := 0) (ms := 0) rfl rfl (Nat.le_of_ble_eq_true rfl) (Nat.le_of_ble_eq_true rfl) (by omega) (by omega) ?_
        refine ac_ink [some (.inl _)] mt_189 (Nat.le_of_ble_eq_true rfl) rfl ?_
        refine ar_ldI rfl rfl ?_
        refine ar_push rfl ?_
        refine ar_push rfl ?_
        refine ar_callv rfl rfl (Nat.le_of_ble_eq_true rfl) (Nat.le_of_ble_eq_true rfl) rfl (sp_in _ _ _ _ _) ?_
        refine ar_ret rfl (bi_ret _) ?_
        show aRun _ (aCall Mt _) _ 4 (_, [_], _, _, _)
        refine ar_if1f rfl (bi_e0f c1) ?_
        refine ar_ldI rfl rfl ?_
        refine ar_push rfl ?_
        refine ar_push rfl ?_
        refine ar_callv rfl rfl (Nat.le_of_ble_eq_true rfl) (Nat.le_of_ble_eq_true rfl) rfl (sp_in _ _ _ _ _) ?_
        refine ar_if1f rfl (bi_e0f c2) ?_
        refine ar_ldI rfl rfl ?_
        refine ar_push rfl ?_
        refine ar_push rfl ?_
        refine ar_callv rfl rfl (Nat.le_of_ble_eq_true rfl) (Nat.le_of_ble_eq_true rfl) rfl (sp_in _ _ _ _ _) ?_
        refine ar_if1f rfl (bi_n0f c3) ?_
        refine ar_push rfl ?_
        refine ar_ret rfl rfl ?_
        exact ⟨rfl, hJ _ _ _⟩

set_option maxRecDepth 20000 in
set_option maxHeartbeats 4000000 in
theorem p1_25  (J : aH → Nat → Nat → Prop) (hJ : ∀ h a b, J h a b) (kc ks : Nat) (hkc : 1000 ≤ kc) (hks : 100000 ≤ ks) : aPairI 0 69 149 268 [] J hF kc ks := by
  refine ⟨0, 0, _, by omega, by omega, rfl, ?_⟩
  refine ac_ink [some (.inr (.inr (some 0))), none] mt_149 (Nat.le_of_ble_eq_true rfl) rfl ?_
  refine ar_ldA rfl rfl ?_
  refine ar_get rfl rfl rfl ?_
  refine ar_get rfl rfl rfl ?_
  refine ar_svIk [some (.inr (.inr (some 0))), some (.inl 0)] rfl rfl ?_
  refine ar_ldA rfl rfl ?_
  refine ar_get rfl rfl rfl ?_
  refine ar_push rfl ?_
  refine ar_put rfl rfl (Nat.le_of_ble_eq_true rfl) rfl ?_
  refine ar_ldI rfl rfl ?_
  refine ar_ret rfl rfl ?_
  refine ⟨_, 0, 0, _, rfl, Nat.zero_le _, Nat.zero_le _, (hs_ne (by decide) rfl), ?_⟩
  refine rgen (rFr_F.sets (by decide)) (fun g hr => ?_)
  refine ac_ink [some (.inr (.inr (some 69))), none] mt_268 (Nat.le_of_ble_eq_true rfl) rfl ?_
  refine ar_ldA rfl rfl ?_
  refine ar_get rfl (hr.at 69 (by decide) (by decide) rfl) rfl ?_
  refine ar_svIk [some (.inr (.inr (some 69))), some (.inl 0)] rfl rfl ?_
  refine ar_ldA rfl rfl ?_
  refine ar_push rfl ?_
  refine ar_put rfl (hr.at 69 (by decide) (by decide) rfl) (Nat.le_of_ble_eq_true rfl) rfl ?_
  refine ar_ldI rfl rfl ?_
  refine ar_ret rfl rfl ?_
  exact ⟨rfl, hJ _ _ _⟩

set_option maxRecDepth 20000 in
set_option maxHeartbeats 4000000 in
theorem p1_26 (x1 : Int32) (x2 : Int32) (x3 : Int32) (J : aH → Nat → Nat → Prop) (hJ : ∀ h a b, J h a b) (kc ks : Nat) (hkc : 1000 ≤ kc) (hks : 100000 ≤ ks) : aPairI 0 69 150 271 [.inl x1, .inl x2, .inl x3] J hF kc ks := by
  refine ⟨0, 0, _, by omega, by omega, rfl, ?_⟩
  refine ac_ink [some (.inr (.inr (some 0))), some (.inl _), some (.inl _), some (.inl _), none, none] mt_150 (Nat.le_of_ble_eq_true rfl) rfl ?_
  refine ar_ldA rfl rfl ?_
  refine ar_get rfl rfl rfl ?_
  refine ar_ldI rfl rfl ?_
  refine ar_inl (mc := 0) (ms := 0) rfl (rcv_of rfl) (Nat.le_of_ble_eq_true rfl) (Nat.le_of_ble_eq_true rfl) (by omega) (by omega) ?_
  refine ac_ink [some (.inr (.inr (some 1))), some (.inl _)] mt_60 (Nat.le_of_ble_eq_true rfl) rfl ?_
  refine ar_ldI rfl rfl ?_
  refine ar_if1 rfl (fun c1 => ?_) (fun c1 => ?_)
  · refine ar_push rfl ?_
    refine ar_ret rfl rfl ?_
    show aRun _ (aCall Mt _) _ 8 (_, [_], _, _, _)
    refine ar_svAk [some (.inr (.inr (some 0))), some (.inl _), some (.inl _), some (.inl _), some (.inr (.inr none)), none] rfl rfl ?_
    refine ar_ldA rfl rfl ?_
    refine ar_get rfl rfl rfl ?_
    refine ar_ldI rfl rfl ?_
    refine ar_inl (mc := 0) (ms := 0) rfl (rcv_of rfl) (Nat.le_of_ble_eq_true rfl) (Nat.le_of_ble_eq_true rfl) (by omega) (by omega) ?_
    refine ac_ink [some (.inr (.inr (some 1))), some (.inl _)] mt_60 (Nat.le_of_ble_eq_true rfl) rfl ?_
    refine ar_ldI rfl rfl ?_
    refine ar_if1 rfl (fun c2 => ?_) (fun c2 => ?_)
    · refine ar_push rfl ?_
      refine ar_ret rfl rfl ?_
      show aRun _ (aCall Mt _) _ 18 (_, [_], _, _, _)
      refine ar_svAk [some (.inr (.inr (some 0))), some (.inl _), some (.inl _), some (.inl _), some (.inr (.inr none)), some (.inr (.inr none))] rfl rfl ?_
      refine ar_ldA rfl rfl ?_
      refine ar_nulN rfl ?_
      refine ar_push rfl ?_
      refine ar_ret rfl rfl ?_
      refine ⟨_, 0, 0, _, rfl, Nat.zero_le _, Nat.zero_le _, rfl, ?_⟩
      refine rgen rFr_F (fun g hr => ?_)
      refine ac_ink [some (.inr (.inr (some 69))), some (.inl _), some (.inl _), some (.inl _)] mt_271 (Nat.le_of_ble_eq_true rfl) rfl ?_
      refine ar_ldA rfl rfl ?_
      refine ar_ldI rfl rfl ?_
      refine ar_inl (mc := 0) (ms := 0) rfl (rcv_of (hr.at 69 (by decide) (by decide) rfl)) (Nat.le_of_ble_eq_true rfl) (Nat.le_of_ble_eq_true rfl) (by omega) (by omega) ?_
      refine ac_ink [some (.inr (.inr (some 69))), some (.inl _)] mt_187 (Nat.le_of_ble_eq_true rfl) rfl ?_
      refine ar_ldI rfl rfl ?_
      refine ar_push rfl ?_
      refine ar_ldA rfl rfl ?_
      refine ar_get rfl (hr.at 69 (by decide) (by decide) rfl) rfl ?_
      refine ar_push rfl ?_
      refine ar_bink (z := (-1)) rfl (by decide) ?_
      refine ar_callv rfl rfl (Nat.le_of_ble_eq_true rfl) (Nat.le_of_ble_eq_true rfl) rfl (sp_in _ _ _ _ _) ?_
      refine ar_ret rfl (bi_ret _) ?_
      show aRun _ (aCall Mt _) _ 5 (_, [_], _, _, _)
      refine ar_if1t rfl (bi_e0t (wi_n1 _)) ?_
      refine ar_push rfl ?_
      refine ar_ret rfl rfl ?_
      exact ⟨rfl, hJ _ _ _⟩
    · refine ar_ldI rfl rfl ?_
      refine ar_ldA rfl rfl ?_
      refine ar_get rfl rfl rfl ?_
      refine ar_if2t rfl (lt_f c2) ?_
      refine ar_push rfl ?_
      refine ar_ret rfl rfl ?_
      show aRun _ (aCall Mt _) _ 18 (_, [_], _, _, _)
      refine ar_svAk [some (.inr (.inr (some 0))), some (.inl _), some (.inl _), some (.inl _), some (.inr (.inr none)), some (.inr (.inr none))] rfl rfl ?_
      refine ar_ldA rfl rfl ?_
      refine ar_nulN rfl ?_
      refine ar_push rfl ?_
      refine ar_ret rfl rfl ?_
      refine ⟨_, 0, 0, _, rfl, Nat.zero_le _, Nat.zero_le _, rfl, ?_⟩
      refine rgen rFr_F (fun g hr => ?_)
      refine ac_ink [some (.inr (.inr (some 69))), some (.inl _), some (.inl _), some (.inl _)] mt_271 (Nat.le_of_ble_eq_true rfl) rfl ?_
      refine ar_ldA rfl rfl ?_
      refine ar_ldI rfl rfl ?_
      refine ar_inl (mc := 0) (ms := 0) rfl (rcv_of (hr.at 69 (by decide) (by decide) rfl)) (Nat.le_of_ble_eq_true rfl) (Nat.le_of_ble_eq_true rfl) (by omega) (by omega) ?_
      refine ac_ink [some (.inr (.inr (some 69))), some (.inl _)] mt_187 (Nat.le_of_ble_eq_true rfl) rfl ?_
      refine ar_ldI rfl rfl ?_
      refine ar_push rfl ?_
      refine ar_ldA rfl rfl ?_
      refine ar_get rfl (hr.at 69 (by decide) (by decide) rfl) rfl ?_
      refine ar_push rfl ?_
      refine ar_bink (z := (-1)) rfl (by decide) ?_
      refine ar_callv rfl rfl (Nat.le_of_ble_eq_true rfl) (Nat.le_of_ble_eq_true rfl) rfl (sp_in _ _ _ _ _) ?_
      refine ar_ret rfl (bi_ret _) ?_
      show aRun _ (aCall Mt _) _ 5 (_, [_], _, _, _)
      refine ar_if1t rfl (bi_e0t (wi_n1 _)) ?_
      refine ar_push rfl ?_
      refine ar_ret rfl rfl ?_
      exact ⟨rfl, hJ _ _ _⟩
  · refine ar_ldI rfl rfl ?_
    refine ar_ldA rfl rfl ?_
    refine ar_get rfl rfl rfl ?_
    refine ar_if2t rfl (lt_f c1) ?_
    refine ar_push rfl ?_
    refine ar_ret rfl rfl ?_
    show aRun _ (aCall Mt _) _ 8 (_, [_], _, _, _)
    refine ar_svAk [some (.inr (.inr (some 0))), some (.inl _), some (.inl _), some (.inl _), some (.inr (.inr none)), none] rfl rfl ?_
    refine ar_ldA rfl rfl ?_
    refine ar_get rfl rfl rfl ?_
    refine ar_ldI rfl rfl ?_
    refine ar_inl (mc := 0) (ms := 0) rfl (rcv_of rfl) (Nat.le_of_ble_eq_true rfl) (Nat.le_of_ble_eq_true rfl) (by omega) (by omega) ?_
    refine ac_ink [some (.inr (.inr (some 1))), some (.inl _)] mt_60 (Nat.le_of_ble_eq_true rfl) rfl ?_
    refine ar_ldI rfl rfl ?_
    refine ar_if1 rfl (fun c3 => ?_) (fun c3 => ?_)
    · refine ar_push rfl ?_
      refine ar_ret rfl rfl ?_
      show aRun _ (aCall Mt _) _ 18 (_, [_], _, _, _)
      refine ar_svAk [some (.inr (.inr (some 0))), some (.inl _), some (.inl _), some (.inl _), some (.inr (.inr none)), some (.inr (.inr none))] rfl rfl ?_
      refine ar_ldA rfl rfl ?_
      refine ar_nulN rfl ?_
      refine ar_push rfl ?_
      refine ar_ret rfl rfl ?_
      refine ⟨_, 0, 0, _, rfl, Nat.zero_le _, Nat.zero_le _, rfl, ?_⟩
      refine rgen rFr_F (fun g hr => ?_)
      refine ac_ink [some (.inr (.inr (some 69))), some (.inl _), some (.inl _), some (.inl _)] mt_271 (Nat.le_of_ble_eq_true rfl) rfl ?_
      refine ar_ldA rfl rfl ?_
      refine ar_ldI rfl rfl ?_
      refine ar_inl (mc := 0) (ms := 0) rfl (rcv_of (hr.at 69 (by decide) (by decide) rfl)) (Nat.le_of_ble_eq_true rfl) (Nat.le_of_ble_eq_true rfl) (by omega) (by omega) ?_
      refine ac_ink [some (.inr (.inr (some 69))), some (.inl _)] mt_187 (Nat.le_of_ble_eq_true rfl) rfl ?_
      refine ar_ldI rfl rfl ?_
      refine ar_push rfl ?_
      refine ar_ldA rfl rfl ?_
      refine ar_get rfl (hr.at 69 (by decide) (by decide) rfl) rfl ?_
      refine ar_push rfl ?_
      refine ar_bink (z := (-1)) rfl (by decide) ?_
      refine ar_callv rfl rfl (Nat.le_of_ble_eq_true rfl) (Nat.le_of_ble_eq_true rfl) rfl (sp_in _ _ _ _ _) ?_
      refine ar_ret rfl (bi_ret _) ?_
      show aRun _ (aCall Mt _) _ 5 (_, [_], _, _, _)
      refine ar_if1t rfl (bi_e0t (wi_n1 _)) ?_
      refine ar_push rfl ?_
      refine ar_ret rfl rfl ?_
      exact ⟨rfl, hJ _ _ _⟩
    · refine ar_ldI rfl rfl ?_
      refine ar_ldA rfl rfl ?_
      refine ar_get rfl rfl rfl ?_
      refine ar_if2t rfl (lt_f c3) ?_
      refine ar_push rfl ?_
      refine ar_ret rfl rfl ?_
      show aRun _ (aCall Mt _) _ 18 (_, [_], _, _, _)
      refine ar_svAk [some (.inr (.inr (some 0))), some (.inl _), some (.inl _), some (.inl _), some (.inr (.inr none)), some (.inr (.inr none))] rfl rfl ?_
      refine ar_ldA rfl rfl ?_
      refine ar_nulN rfl ?_
      refine ar_push rfl ?_
      refine ar_ret rfl rfl ?_
      refine ⟨_, 0, 0, _, rfl, Nat.zero_le _, Nat.zero_le _, rfl, ?_⟩
      refine rgen rFr_F (fun g hr => ?_)
      refine ac_ink [some (.inr (.inr (some 69))), some (.inl _), some (.inl _), some (.inl _)] mt_271 (Nat.le_of_ble_eq_true rfl) rfl ?_
      refine ar_ldA rfl rfl ?_
      refine ar_ldI rfl rfl ?_
      refine ar_inl (mc := 0) (ms := 0) rfl (rcv_of (hr.at 69 (by decide) (by decide) rfl)) (Nat.le_of_ble_eq_true rfl) (Nat.le_of_ble_eq_true rfl) (by omega) (by omega) ?_
      refine ac_ink [some (.inr (.inr (some 69))), some (.inl _)] mt_187 (Nat.le_of_ble_eq_true rfl) rfl ?_
      refine ar_ldI rfl rfl ?_
      refine ar_push rfl ?_
      refine ar_ldA rfl rfl ?_
      refine ar_get rfl (hr.at 69 (by decide) (by decide) rfl) rfl ?_
      refine ar_push rfl ?_
      refine ar_bink (z := (-1)) rfl (by decide) ?_
      refine ar_callv rfl rfl (Nat.le_of_ble_eq_true rfl) (Nat.le_of_ble_eq_true rfl) rfl (sp_in _ _ _ _ _) ?_
      refine ar_ret rfl (bi_ret _) ?_
      show aRun _ (aCall Mt _) _ 5 (_, [_], _, _, _)
      refine ar_if1t rfl (bi_e0t (wi_n1 _)) ?_
      refine ar_push rfl ?_
      refine ar_ret rfl rfl ?_
      exact ⟨rfl, hJ _ _ _⟩

set_option maxRecDepth 20000 in
set_option maxHeartbeats 4000000 in
theorem p1_28 (x1 : Int32) (x2 : Int32) (x3 : Int32) (x4 : Int32) (J : aH → Nat → Nat → Prop) (hJ : ∀ h a b, J h a b) (kc ks : Nat) (hkc : 1000 ≤ kc) (hks : 100000 ≤ ks) : aPairI 0 69 152 275 [.inl x1, .inl x2, .inl x3, .inl x4] J hF kc ks := by
  refine ⟨0, 0, _, by omega, by omega, rfl, ?_⟩
  refine ac_ink [some (.inr (.inr (some 0))), some (.inl _), some (.inl _), some (.inl _), some (.inl _), none, none] mt_152 (Nat.le_of_ble_eq_true rfl) rfl ?_
  refine ar_ldA rfl rfl ?_
  refine ar_get rfl rfl rfl ?_
  refine ar_ldI rfl rfl ?_
  refine ar_inl (mc := 0) (ms := 0) rfl (rcv_of rfl) (Nat.le_of_ble_eq_true rfl) (Nat.le_of_ble_eq_true rfl) (by omega) (by omega) ?_
  refine ac_ink [some (.inr (.inr (some 1))), some (.inl _)] mt_60 (Nat.le_of_ble_eq_true rfl) rfl ?_
  refine ar_ldI rfl rfl ?_
  refine ar_if1 rfl (fun c1 => ?_) (fun c1 => ?_)
  · refine ar_push rfl ?_
    refine ar_ret rfl rfl ?_
    show aRun _ (aCall Mt _) _ 8 (_, [_], _, _, _)
    refine ar_svAk [some (.inr (.inr (some 0))), some (.inl _), some (.inl _), some (.inl _), some (.inl _), some (.inr (.inr none)), none] rfl rfl ?_
    refine ar_ldA rfl rfl ?_
    refine ar_nulN rfl ?_
    refine ar_push rfl ?_
    refine ar_ret rfl rfl ?_
    refine ⟨_, 0, 0, _, rfl, Nat.zero_le _, Nat.zero_le _, rfl, ?_⟩
    refine rgen rFr_F (fun g hr => ?_)
    refine ac_ink [some (.inr (.inr (some 69))), some (.inl _), some (.inl _), some (.inl _), some (.inl _), none, none] mt_275 (Nat.le_of_ble_eq_true rfl) rfl ?_
    refine ar_ldA rfl rfl ?_
    refine ar_ldI rfl rfl ?_
    refine ar_inl (mc := 0) (ms := 0) rfl (rcv_of (hr.at 69 (by decide) (by decide) rfl)) (Nat.le_of_ble_eq_true rfl) (Nat.le_of_ble_eq_true rfl) (by omega) (by omega) ?_
    refine ac_ink [some (.inr (.inr (some 69))), some (.inl _)] mt_187 (Nat.le_of_ble_eq_true rfl) rfl ?_
    refine ar_ldI rfl rfl ?_
    refine ar_push rfl ?_
    refine ar_ldA rfl rfl ?_
    refine ar_get rfl (hr.at 69 (by decide) (by decide) rfl) rfl ?_
    refine ar_push rfl ?_
    refine ar_bink (z := (-1)) rfl (by decide) ?_
    refine ar_callv rfl rfl (Nat.le_of_ble_eq_true rfl) (Nat.le_of_ble_eq_true rfl) rfl (sp_in _ _ _ _ _) ?_
    refine ar_ret rfl (bi_ret _) ?_
    show aRun _ (aCall Mt _) _ 5 (_, [_], _, _, _)
    refine ar_if1t rfl (bi_e0t (wi_n1 _)) ?_
    refine ar_push rfl ?_
    refine ar_ret rfl rfl ?_
    exact ⟨rfl, hJ _ _ _⟩
  · refine ar_ldI rfl rfl ?_
    refine ar_ldA rfl rfl ?_
    refine ar_get rfl rfl rfl ?_
    refine ar_if2t rfl (lt_f c1) ?_
    refine ar_push rfl ?_
    refine ar_ret rfl rfl ?_
    show aRun _ (aCall Mt _) _ 8 (_, [_], _, _, _)
    refine ar_svAk [some (.inr (.inr (some 0))), some (.inl _), some (.inl _), some (.inl _), some (.inl _), some (.inr (.inr none)), none] rfl rfl ?_
    refine ar_ldA rfl rfl ?_
    refine ar_nulN rfl ?_
    refine ar_push rfl ?_
    refine ar_ret rfl rfl ?_
    refine ⟨_, 0, 0, _, rfl, Nat.zero_le _, Nat.zero_le _, rfl, ?_⟩
    refine rgen rFr_F (fun g hr => ?_)
    refine ac_ink [some (.inr (.inr (some 69))), some (.inl _), some (.inl _), some (.inl _), some (.inl _), none, none] mt_275 (Nat.le_of_ble_eq_true rfl) rfl ?_
    refine ar_ldA rfl rfl ?_
    refine ar_ldI rfl rfl ?_
    refine ar_inl (mc := 0) (ms := 0) rfl (rcv_of (hr.at 69 (by decide) (by decide) rfl)) (Nat.le_of_ble_eq_true rfl) (Nat.le_of_ble_eq_true rfl) (by omega) (by omega) ?_
    refine ac_ink [some (.inr (.inr (some 69))), some (.inl _)] mt_187 (Nat.le_of_ble_eq_true rfl) rfl ?_
    refine ar_ldI rfl rfl ?_
    refine ar_push rfl ?_
    refine ar_ldA rfl rfl ?_
    refine ar_get rfl (hr.at 69 (by decide) (by decide) rfl) rfl ?_
    refine ar_push rfl ?_
    refine ar_bink (z := (-1)) rfl (by decide) ?_
    refine ar_callv rfl rfl (Nat.le_of_ble_eq_true rfl) (Nat.le_of_ble_eq_true rfl) rfl (sp_in _ _ _ _ _) ?_
    refine ar_ret rfl (bi_ret _) ?_
    show aRun _ (aCall Mt _) _ 5 (_, [_], _, _, _)
    refine ar_if1t rfl (bi_e0t (wi_n1 _)) ?_
    refine ar_push rfl ?_
    refine ar_ret rfl rfl ?_
    exact ⟨rfl, hJ _ _ _⟩

set_option maxRecDepth 20000 in
set_option maxHeartbeats 4000000 in
theorem p1_29 (x1 : Int32) (x2 : Int32) (x3 : Int32) (J : aH → Nat → Nat → Prop) (hJ : ∀ h a b, J h a b) (kc ks : Nat) (hkc : 1000 ≤ kc) (hks : 100000 ≤ ks) : aPairI 0 69 153 277 [.inl x1, .inl x2, .inl x3] J hF kc ks := by
  refine ⟨0, 0, _, by omega, by omega, rfl, ?_⟩
  refine ac_ink [some (.inr (.inr (some 0))), some (.inl _), some (.inl _), some (.inl _), none, none, none] mt_153 (Nat.le_of_ble_eq_true rfl) rfl ?_
  refine ar_ldA rfl rfl ?_
  refine ar_get rfl rfl rfl ?_
  refine ar_ldI rfl rfl ?_
  refine ar_inl (mc := 0) (ms := 0) rfl (rcv_of rfl) (Nat.le_of_ble_eq_true rfl) (Nat.le_of_ble_eq_true rfl) (by omega) (by omega) ?_
  refine ac_ink [some (.inr (.inr (some 1))), some (.inl _)] mt_60 (Nat.le_of_ble_eq_true rfl) rfl ?_
  refine ar_ldI rfl rfl ?_
  refine ar_if1 rfl (fun c1 => ?_) (fun c1 => ?_)
  · refine ar_push rfl ?_
    refine ar_ret rfl rfl ?_
    show aRun _ (aCall Mt _) _ 8 (_, [_], _, _, _)
    refine ar_svAk [some (.inr (.inr (some 0))), some (.inl _), some (.inl _), some (.inl _), some (.inr (.inr none)), none, none] rfl rfl ?_
    refine ar_ldA rfl rfl ?_
    refine ar_nulN rfl ?_
    refine ar_push rfl ?_
    refine ar_ret rfl rfl ?_
    refine ⟨_, 0, 0, _, rfl, Nat.zero_le _, Nat.zero_le _, rfl, ?_⟩
    refine rgen rFr_F (fun g hr => ?_)
    refine ac_ink [some (.inr (.inr (some 69))), some (.inl _), some (.inl _), some (.inl _), none, none, none, none, none] mt_277 (Nat.le_of_ble_eq_true rfl) rfl ?_
    refine ar_ldI rfl rfl ?_
    refine ar_inl (mc := 0) (ms := 0) rfl rfl (Nat.le_of_ble_eq_true rfl) (Nat.le_of_ble_eq_true rfl) (by omega) (by omega) ?_
    refine ac_ink [some (.inl _)] mt_190 (Nat.le_of_ble_eq_true rfl) rfl ?_
    refine ar_ldI rfl rfl ?_
    refine ar_push rfl ?_
    refine ar_push rfl ?_
    refine ar_callv rfl rfl (Nat.le_of_ble_eq_true rfl) (Nat.le_of_ble_eq_true rfl) rfl (sp_in _ _ _ _ _) ?_
    refine ar_ret rfl (bi_ret _) ?_
    show aRun _ (aCall Mt _) _ 4 (_, [_], _, _, _)
    refine ar_eqB rfl (fun c2 => ?_) (fun c2 => ?_)
    · refine ar_push rfl ?_
      refine ar_ret rfl rfl ?_
      exact ⟨rfl, hJ _ _ _⟩
    · refine ar_ldA rfl rfl ?_
      refine ar_ldI rfl rfl ?_
      refine ar_inl (mc := 0) (ms := 0) rfl (rcv_of (hr.at 69 (by decide) (by decide) rfl)) (Nat.le_of_ble_eq_true rfl) (Nat.le_of_ble_eq_true rfl) (by omega) (by omega) ?_
      refine ac_ink [some (.inr (.inr (some 69))), some (.inl _)] mt_187 (Nat.le_of_ble_eq_true rfl) rfl ?_
      refine ar_ldI rfl rfl ?_
      refine ar_push rfl ?_
      refine ar_ldA rfl rfl ?_
      refine ar_get rfl (hr.at 69 (by decide) (by decide) rfl) rfl ?_
      refine ar_push rfl ?_
      refine ar_bink (z := (-1)) rfl (by decide) ?_
      refine ar_callv rfl rfl (Nat.le_of_ble_eq_true rfl) (Nat.le_of_ble_eq_true rfl) rfl (sp_in _ _ _ _ _) ?_
      refine ar_ret rfl (bi_ret _) ?_
      show aRun _ (aCall Mt _) _ 12 (_, [_], _, _, _)
      refine ar_if1t rfl (bi_e0t (wi_n1 _)) ?_
      refine ar_push rfl ?_
      refine ar_ret rfl rfl ?_
      exact ⟨rfl, hJ _ _ _⟩
  · refine ar_ldI rfl rfl ?_
    refine ar_ldA rfl rfl ?_
    refine ar_get rfl rfl rfl ?_
    refine ar_if2t rfl (lt_f c1) ?_
    refine ar_push rfl ?_
    refine ar_ret rfl rfl ?_
    show aRun _ (aCall Mt _) _ 8 (_, [_], _, _, _)
    refine ar_svAk [some (.inr (.inr (some 0))), some (.inl _), some (.inl _), some (.inl _), some (.inr (.inr none)), none, none] rfl rfl ?_
    refine ar_ldA rfl rfl ?_
    refine ar_nulN rfl ?_
    refine ar_push rfl ?_
    refine ar_ret rfl rfl ?_
    refine ⟨_, 0, 0, _, rfl, Nat.zero_le _, Nat.zero_le _, rfl, ?_⟩
    refine rgen rFr_F (fun g hr => ?_)
    refine ac_ink [some (.inr (.inr (some 69))), some (.inl _), some (.inl _), some (.inl _), none, none, none, none, none] mt_277 (Nat.le_of_ble_eq_true rfl) rfl ?_
    refine ar_ldI rfl rfl ?_
    refine ar_inl (mc := 0) (ms := 0) rfl rfl (Nat.le_of_ble_eq_true rfl) (Nat.le_of_ble_eq_true rfl) (by omega) (by omega) ?_
    refine ac_ink [some (.inl _)] mt_190 (Nat.le_of_ble_eq_true rfl) rfl ?_
    refine ar_ldI rfl rfl ?_
    refine ar_push rfl ?_
    refine ar_push rfl ?_
    refine ar_callv rfl rfl (Nat.le_of_ble_eq_true rfl) (Nat.le_of_ble_eq_true rfl) rfl (sp_in _ _ _ _ _) ?_
    refine ar_ret rfl (bi_ret _) ?_
    show aRun _ (aCall Mt _) _ 4 (_, [_], _, _, _)
    refine ar_eqB rfl (fun c3 => ?_) (fun c3 => ?_)
    · refine ar_push rfl ?_
      refine ar_ret rfl rfl ?_
      exact ⟨rfl, hJ _ _ _⟩
    · refine ar_ldA rfl rfl ?_
      refine ar_ldI rfl rfl ?_
      refine ar_inl (mc := 0) (ms := 0) rfl (rcv_of (hr.at 69 (by decide) (by decide) rfl)) (Nat.le_of_ble_eq_true rfl) (Nat.le_of_ble_eq_true rfl) (by omega) (by omega) ?_
      refine ac_ink [some (.inr (.inr (some 69))), some (.inl _)] mt_187 (Nat.le_of_ble_eq_true rfl) rfl ?_
      refine ar_ldI rfl rfl ?_
      refine ar_push rfl ?_
      refine ar_ldA rfl rfl ?_
      refine ar_get rfl (hr.at 69 (by decide) (by decide) rfl) rfl ?_
      refine ar_push rfl ?_
      refine ar_bink (z := (-1)) rfl (by decide) ?_
      refine ar_callv rfl rfl (Nat.le_of_ble_eq_true rfl) (Nat.le_of_ble_eq_true rfl) rfl (sp_in _ _ _ _ _) ?_
      refine ar_ret rfl (bi_ret _) ?_
      show aRun _ (aCall Mt _) _ 12 (_, [_], _, _, _)
      refine ar_if1t rfl (bi_e0t (wi_n1 _)) ?_
      refine ar_push rfl ?_
      refine ar_ret rfl rfl ?_
      exact ⟨rfl, hJ _ _ _⟩

set_option maxRecDepth 20000 in
set_option maxHeartbeats 4000000 in
theorem p1_30 (x1 : Int32) (x2 : Int32) (J : aH → Nat → Nat → Prop) (hJ : ∀ h a b, J h a b) (kc ks : Nat) (hkc : 1000 ≤ kc) (hks : 100000 ≤ ks) : aPairI 0 69 154 278 [.inl x1, .inl x2] J hF kc ks := by
  refine ⟨0, 0, _, by omega, by omega, rfl, ?_⟩
  refine ac_ink [some (.inr (.inr (some 0))), some (.inl _), some (.inl _), none] mt_154 (Nat.le_of_ble_eq_true rfl) rfl ?_
  refine ar_ldA rfl rfl ?_
  refine ar_get rfl rfl rfl ?_
  refine ar_ldI rfl rfl ?_
  refine ar_inl (mc := 0) (ms := 0) rfl (rcv_of rfl) (Nat.le_of_ble_eq_true rfl) (Nat.le_of_ble_eq_true rfl) (by omega) (by omega) ?_
  refine ac_ink [some (.inr (.inr (some 1))), some (.inl _)] mt_60 (Nat.le_of_ble_eq_true rfl) rfl ?_
  refine ar_ldI rfl rfl ?_
  refine ar_if1 rfl (fun c1 => ?_) (fun c1 => ?_)
  · refine ar_push rfl ?_
    refine ar_ret rfl rfl ?_
    show aRun _ (aCall Mt _) _ 8 (_, [_], _, _, _)
    refine ar_svAk [some (.inr (.inr (some 0))), some (.inl _), some (.inl _), some (.inr (.inr none))] rfl rfl ?_
    refine ar_ldA rfl rfl ?_
    refine ar_nulN rfl ?_
    refine ar_push rfl ?_
    refine ar_ret rfl rfl ?_
    refine ⟨_, 0, 0, _, rfl, Nat.zero_le _, Nat.zero_le _, rfl, ?_⟩
    refine rgen rFr_F (fun g hr => ?_)
    refine ac_ink [some (.inr (.inr (some 69))), some (.inl _), some (.inl _), none, none, none] mt_278 (Nat.le_of_ble_eq_true rfl) rfl ?_
    refine ar_ldA rfl rfl ?_
    refine ar_ldI rfl rfl ?_
    refine ar_inl (mc := 0) (ms := 0) rfl (rcv_of (hr.at 69 (by decide) (by decide) rfl)) (Nat.le_of_ble_eq_true rfl) (Nat.le_of_ble_eq_true rfl) (by omega) (by omega) ?_
    refine ac_ink [some (.inr (.inr (some 69))), some (.inl _)] mt_187 (Nat.le_of_ble_eq_true rfl) rfl ?_
    refine ar_ldI rfl rfl ?_
    refine ar_push rfl ?_
    refine ar_ldA rfl rfl ?_
    refine ar_get rfl (hr.at 69 (by decide) (by decide) rfl) rfl ?_
    refine ar_push rfl ?_
    refine ar_bink (z := (-1)) rfl (by decide) ?_
    refine ar_callv rfl rfl (Nat.le_of_ble_eq_true rfl) (Nat.le_of_ble_eq_true rfl) rfl (sp_in _ _ _ _ _) ?_
    refine ar_ret rfl (bi_ret _) ?_
    show aRun _ (aCall Mt _) _ 5 (_, [_], _, _, _)
    refine ar_if1t rfl (bi_e0t (wi_n1 _)) ?_
    refine ar_push rfl ?_
    refine ar_ret rfl rfl ?_
    exact ⟨rfl, hJ _ _ _⟩
  · refine ar_ldI rfl rfl ?_
    refine ar_ldA rfl rfl ?_
    refine ar_get rfl rfl rfl ?_
    refine ar_if2t rfl (lt_f c1) ?_
    refine ar_push rfl ?_
    refine ar_ret rfl rfl ?_
    show aRun _ (aCall Mt _) _ 8 (_, [_], _, _, _)
    refine ar_svAk [some (.inr (.inr (some 0))), some (.inl _), some (.inl _), some (.inr (.inr none))] rfl rfl ?_
    refine ar_ldA rfl rfl ?_
    refine ar_nulN rfl ?_
    refine ar_push rfl ?_
    refine ar_ret rfl rfl ?_
    refine ⟨_, 0, 0, _, rfl, Nat.zero_le _, Nat.zero_le _, rfl, ?_⟩
    refine rgen rFr_F (fun g hr => ?_)
    refine ac_ink [some (.inr (.inr (some 69))), some (.inl _), some (.inl _), none, none, none] mt_278 (Nat.le_of_ble_eq_true rfl) rfl ?_
    refine ar_ldA rfl rfl ?_
    refine ar_ldI rfl rfl ?_
    refine ar_inl (mc := 0) (ms := 0) rfl (rcv_of (hr.at 69 (by decide) (by decide) rfl)) (Nat.le_of_ble_eq_true rfl) (Nat.le_of_ble_eq_true rfl) (by omega) (by omega) ?_
    refine ac_ink [some (.inr (.inr (some 69))), some (.inl _)] mt_187 (Nat.le_of_ble_eq_true rfl) rfl ?_
    refine ar_ldI rfl rfl ?_
    refine ar_push rfl ?_
    refine ar_ldA rfl rfl ?_
    refine ar_get rfl (hr.at 69 (by decide) (by decide) rfl) rfl ?_
    refine ar_push rfl ?_
    refine ar_bink (z := (-1)) rfl (by decide) ?_
    refine ar_callv rfl rfl (Nat.le_of_ble_eq_true rfl) (Nat.le_of_ble_eq_true rfl) rfl (sp_in _ _ _ _ _) ?_
    refine ar_ret rfl (bi_ret _) ?_
    show aRun _ (aCall Mt _) _ 5 (_, [_], _, _, _)
    refine ar_if1t rfl (bi_e0t (wi_n1 _)) ?_
    refine ar_push rfl ?_
    refine ar_ret rfl rfl ?_
    exact ⟨rfl, hJ _ _ _⟩

set_option maxRecDepth 20000 in
set_option maxHeartbeats 4000000 in
theorem p1_31 (x1 : Int32) (J : aH → Nat → Nat → Prop) (hJ : ∀ h a b, J h a b) (kc ks : Nat) (hkc : 1000 ≤ kc) (hks : 100000 ≤ ks) : aPairI 0 69 155 280 [.inl x1] J hF kc ks := by
  refine ⟨0, 0, _, by omega, by omega, rfl, ?_⟩
  refine ac_ink [some (.inr (.inr (some 0))), some (.inl _)] mt_155 (Nat.le_of_ble_eq_true rfl) rfl ?_
  refine ar_ldA rfl rfl ?_
  refine ar_get rfl rfl rfl ?_
  refine ar_ldI rfl rfl ?_
  refine ar_inl (mc := 0) (ms := 0) rfl (rcv_of rfl) (Nat.le_of_ble_eq_true rfl) (Nat.le_of_ble_eq_true rfl) (by omega) (by omega) ?_
  refine ac_ink [some (.inr (.inr (some 1))), some (.inl _)] mt_60 (Nat.le_of_ble_eq_true rfl) rfl ?_
  refine ar_ldI rfl rfl ?_
  refine ar_if1 rfl (fun c1 => ?_) (fun c1 => ?_)
  · refine ar_push rfl ?_
    refine ar_ret rfl rfl ?_
    show aRun _ (aCall Mt _) _ 8 (_, [_], _, _, _)
    refine ar_nulN rfl ?_
    refine ar_push rfl ?_
    refine ar_ret rfl rfl ?_
    refine ⟨_, 0, 0, _, rfl, Nat.zero_le _, Nat.zero_le _, rfl, ?_⟩
    refine rgen rFr_F (fun g hr => ?_)
    refine ac_ink [some (.inr (.inr (some 69))), some (.inl _), none, none] mt_280 (Nat.le_of_ble_eq_true rfl) rfl ?_
    refine ar_ldA rfl rfl ?_
    refine ar_ldI rfl rfl ?_
    refine ar_inl (mc := 0) (ms := 0) rfl (rcv_of (hr.at 69 (by decide) (by decide) rfl)) (Nat.le_of_ble_eq_true rfl) (Nat.le_of_ble_eq_true rfl) (by omega) (by omega) ?_
    refine ac_ink [some (.inr (.inr (some 69))), some (.inl _)] mt_187 (Nat.le_of_ble_eq_true rfl) rfl ?_
    refine ar_ldI rfl rfl ?_
    refine ar_push rfl ?_
    refine ar_ldA rfl rfl ?_
    refine ar_get rfl (hr.at 69 (by decide) (by decide) rfl) rfl ?_
    refine ar_push rfl ?_
    refine ar_bink (z := (-1)) rfl (by decide) ?_
    refine ar_callv rfl rfl (Nat.le_of_ble_eq_true rfl) (Nat.le_of_ble_eq_true rfl) rfl (sp_in _ _ _ _ _) ?_
    refine ar_ret rfl (bi_ret _) ?_
    show aRun _ (aCall Mt _) _ 5 (_, [_], _, _, _)
    refine ar_if1f rfl (bi_n0f (wi_n1 _)) ?_
    refine ar_push rfl ?_
    refine ar_ret rfl rfl ?_
    exact ⟨rfl, hJ _ _ _⟩
  · refine ar_ldI rfl rfl ?_
    refine ar_ldA rfl rfl ?_
    refine ar_get rfl rfl rfl ?_
    refine ar_if2t rfl (lt_f c1) ?_
    refine ar_push rfl ?_
    refine ar_ret rfl rfl ?_
    show aRun _ (aCall Mt _) _ 8 (_, [_], _, _, _)
    refine ar_nulN rfl ?_
    refine ar_push rfl ?_
    refine ar_ret rfl rfl ?_
    refine ⟨_, 0, 0, _, rfl, Nat.zero_le _, Nat.zero_le _, rfl, ?_⟩
    refine rgen rFr_F (fun g hr => ?_)
    refine ac_ink [some (.inr (.inr (some 69))), some (.inl _), none, none] mt_280 (Nat.le_of_ble_eq_true rfl) rfl ?_
    refine ar_ldA rfl rfl ?_
    refine ar_ldI rfl rfl ?_
    refine ar_inl (mc := 0) (ms := 0) rfl (rcv_of (hr.at 69 (by decide) (by decide) rfl)) (Nat.le_of_ble_eq_true rfl) (Nat.le_of_ble_eq_true rfl) (by omega) (by omega) ?_
    refine ac_ink [some (.inr (.inr (some 69))), some (.inl _)] mt_187 (Nat.le_of_ble_eq_true rfl) rfl ?_
    refine ar_ldI rfl rfl ?_
    refine ar_push rfl ?_
    refine ar_ldA rfl rfl ?_
    refine ar_get rfl (hr.at 69 (by decide) (by decide) rfl) rfl ?_
    refine ar_push rfl ?_
    refine ar_bink (z := (-1)) rfl (by decide) ?_
    refine ar_callv rfl rfl (Nat.le_of_ble_eq_true rfl) (Nat.le_of_ble_eq_true rfl) rfl (sp_in _ _ _ _ _) ?_
    refine ar_ret rfl (bi_ret _) ?_
    show aRun _ (aCall Mt _) _ 5 (_, [_], _, _, _)
    refine ar_if1f rfl (bi_n0f (wi_n1 _)) ?_
    refine ar_push rfl ?_
    refine ar_ret rfl rfl ?_
    exact ⟨rfl, hJ _ _ _⟩

set_option maxRecDepth 20000 in
set_option maxHeartbeats 4000000 in
theorem p1_32 (x1 : Int32) (x2 : Int32) (x3 : Int32) (J : aH → Nat → Nat → Prop) (hJ : ∀ h a b, J h a b) (kc ks : Nat) (hkc : 1000 ≤ kc) (hks : 100000 ≤ ks) : aPairI 0 69 156 282 [.inl x1, .inl x2, .inl x3] J hF kc ks := by
  refine ⟨0, 0, _, by omega, by omega, rfl, ?_⟩
  refine ac_ink [some (.inr (.inr (some 0))), some (.inl _), some (.inl _), some (.inl _), none, none, none] mt_156 (Nat.le_of_ble_eq_true rfl) rfl ?_
  refine ar_ldA rfl rfl ?_
  refine ar_get rfl rfl rfl ?_
  refine ar_ldI rfl rfl ?_
  refine ar_inl (mc := 0) (ms := 0) rfl (rcv_of rfl) (Nat.le_of_ble_eq_true rfl) (Nat.le_of_ble_eq_true rfl) (by omega) (by omega) ?_
  refine ac_ink [some (.inr (.inr (some 1))), some (.inl _)] mt_60 (Nat.le_of_ble_eq_true rfl) rfl ?_
  refine ar_ldI rfl rfl ?_
  refine ar_if1 rfl (fun c1 => ?_) (fun c1 => ?_)
  · refine ar_push rfl ?_
    refine ar_ret rfl rfl ?_
    show aRun _ (aCall Mt _) _ 8 (_, [_], _, _, _)
    refine ar_svAk [some (.inr (.inr (some 0))), some (.inl _), some (.inl _), some (.inl _), some (.inr (.inr none)), none, none] rfl rfl ?_
    refine ar_ldA rfl rfl ?_
    refine ar_get rfl rfl rfl ?_
    refine ar_ldI rfl rfl ?_
    refine ar_inl (mc := 0) (ms := 0) rfl (rcv_of rfl) (Nat.le_of_ble_eq_true rfl) (Nat.le_of_ble_eq_true rfl) (by omega) (by omega) ?_
    refine ac_ink [some (.inr (.inr (some 1))), some (.inl _)] mt_60 (Nat.le_of_ble_eq_true rfl) rfl ?_
    refine ar_ldI rfl rfl ?_
    refine ar_if1 rfl (fun c2 => ?_) (fun c2 => ?_)
    · refine ar_push rfl ?_
      refine ar_ret rfl rfl ?_
      show aRun _ (aCall Mt _) _ 18 (_, [_], _, _, _)
      refine ar_svAk [some (.inr (.inr (some 0))), some (.inl _), some (.inl _), some (.inl _), some (.inr (.inr none)), some (.inr (.inr none)), none] rfl rfl ?_
      refine ar_ldA rfl rfl ?_
      refine ar_nulN rfl ?_
      refine ar_push rfl ?_
      refine ar_ret rfl rfl ?_
      refine ⟨_, 0, 0, _, rfl, Nat.zero_le _, Nat.zero_le _, rfl, ?_⟩
      refine rgen rFr_F (fun g hr => ?_)
      refine ac_ink [some (.inr (.inr (some 69))), some (.inl _), some (.inl _), some (.inl _), none] mt_282 (Nat.le_of_ble_eq_true rfl) rfl ?_
      refine ar_ldA rfl rfl ?_
      refine ar_ldI rfl rfl ?_
      refine ar_inl (mc := 0) (ms := 0) rfl (rcv_of (hr.at 69 (by decide) (by decide) rfl)) (Nat.le_of_ble_eq_true rfl) (Nat.le_of_ble_eq_true rfl) (by omega) (by omega) ?_
      refine ac_ink [some (.inr (.inr (some 69))), some (.inl _)] mt_187 (Nat.le_of_ble_eq_true rfl) rfl ?_
      refine ar_ldI rfl rfl ?_
      refine ar_push rfl ?_
      refine ar_ldA rfl rfl ?_
      refine ar_get rfl (hr.at 69 (by decide) (by decide) rfl) rfl ?_
      refine ar_push rfl ?_
      refine ar_bink (z := (-1)) rfl (by decide) ?_
      refine ar_callv rfl rfl (Nat.le_of_ble_eq_true rfl) (Nat.le_of_ble_eq_true rfl) rfl (sp_in _ _ _ _ _) ?_
      refine ar_ret rfl (bi_ret _) ?_
      show aRun _ (aCall Mt _) _ 5 (_, [_], _, _, _)
      refine ar_if1t rfl (bi_e0t (wi_n1 _)) ?_
      refine ar_push rfl ?_
      refine ar_ret rfl rfl ?_
      exact ⟨rfl, hJ _ _ _⟩
    · refine ar_ldI rfl rfl ?_
      refine ar_ldA rfl rfl ?_
      refine ar_get rfl rfl rfl ?_
      refine ar_if2t rfl (lt_f c2) ?_
      refine ar_push rfl ?_
      refine ar_ret rfl rfl ?_
      show aRun _ (aCall Mt _) _ 18 (_, [_], _, _, _)
      refine ar_svAk [some (.inr (.inr (some 0))), some (.inl _), some (.inl _), some (.inl _), some (.inr (.inr none)), some (.inr (.inr none)), none] rfl rfl ?_
      refine ar_ldA rfl rfl ?_
      refine ar_nulN rfl ?_
      refine ar_push rfl ?_
      refine ar_ret rfl rfl ?_
      refine ⟨_, 0, 0, _, rfl, Nat.zero_le _, Nat.zero_le _, rfl, ?_⟩
      refine rgen rFr_F (fun g hr => ?_)
      refine ac_ink [some (.inr (.inr (some 69))), some (.inl _), some (.inl _), some (.inl _), none] mt_282 (Nat.le_of_ble_eq_true rfl) rfl ?_
      refine ar_ldA rfl rfl ?_
      refine ar_ldI rfl rfl ?_
      refine ar_inl (mc := 0) (ms := 0) rfl (rcv_of (hr.at 69 (by decide) (by decide) rfl)) (Nat.le_of_ble_eq_true rfl) (Nat.le_of_ble_eq_true rfl) (by omega) (by omega) ?_
      refine ac_ink [some (.inr (.inr (some 69))), some (.inl _)] mt_187 (Nat.le_of_ble_eq_true rfl) rfl ?_
      refine ar_ldI rfl rfl ?_
      refine ar_push rfl ?_
      refine ar_ldA rfl rfl ?_
      refine ar_get rfl (hr.at 69 (by decide) (by decide) rfl) rfl ?_
      refine ar_push rfl ?_
      refine ar_bink (z := (-1)) rfl (by decide) ?_
      refine ar_callv rfl rfl (Nat.le_of_ble_eq_true rfl) (Nat.le_of_ble_eq_true rfl) rfl (sp_in _ _ _ _ _) ?_
      refine ar_ret rfl (bi_ret _) ?_
      show aRun _ (aCall Mt _) _ 5 (_, [_], _, _, _)
      refine ar_if1t rfl (bi_e0t (wi_n1 _)) ?_
      refine ar_push rfl ?_
      refine ar_ret rfl rfl ?_
      exact ⟨rfl, hJ _ _ _⟩
  · refine ar_ldI rfl rfl ?_
    refine ar_ldA rfl rfl ?_
    refine ar_get rfl rfl rfl ?_
    refine ar_if2t rfl (lt_f c1) ?_
    refine ar_push rfl ?_
    refine ar_ret rfl rfl ?_
    show aRun _ (aCall Mt _) _ 8 (_, [_], _, _, _)
    refine ar_svAk [some (.inr (.inr (some 0))), some (.inl _), some (.inl _), some (.inl _), some (.inr (.inr none)), none, none] rfl rfl ?_
    refine ar_ldA rfl rfl ?_
    refine ar_get rfl rfl rfl ?_
    refine ar_ldI rfl rfl ?_
    refine ar_inl (mc := 0) (ms := 0) rfl (rcv_of rfl) (Nat.le_of_ble_eq_true rfl) (Nat.le_of_ble_eq_true rfl) (by omega) (by omega) ?_
    refine ac_ink [some (.inr (.inr (some 1))), some (.inl _)] mt_60 (Nat.le_of_ble_eq_true rfl) rfl ?_
    refine ar_ldI rfl rfl ?_
    refine ar_if1 rfl (fun c3 => ?_) (fun c3 => ?_)
    · refine ar_push rfl ?_
      refine ar_ret rfl rfl ?_
      show aRun _ (aCall Mt _) _ 18 (_, [_], _, _, _)
      refine ar_svAk [some (.inr (.inr (some 0))), some (.inl _), some (.inl _), some (.inl _), some (.inr (.inr none)), some (.inr (.inr none)), none] rfl rfl ?_
      refine ar_ldA rfl rfl ?_
      refine ar_nulN rfl ?_
      refine ar_push rfl ?_
      refine ar_ret rfl rfl ?_
      refine ⟨_, 0, 0, _, rfl, Nat.zero_le _, Nat.zero_le _, rfl, ?_⟩
      refine rgen rFr_F (fun g hr => ?_)
      refine ac_ink [some (.inr (.inr (some 69))), some (.inl _), some (.inl _), some (.inl _), none] mt_282 (Nat.le_of_ble_eq_true rfl) rfl ?_
      refine ar_ldA rfl rfl ?_
      refine ar_ldI rfl rfl ?_
      refine ar_inl (mc := 0) (ms := 0) rfl (rcv_of (hr.at 69 (by decide) (by decide) rfl)) (Nat.le_of_ble_eq_true rfl) (Nat.le_of_ble_eq_true rfl) (by omega) (by omega) ?_
      refine ac_ink [some (.inr (.inr (some 69))), some (.inl _)] mt_187 (Nat.le_of_ble_eq_true rfl) rfl ?_
      refine ar_ldI rfl rfl ?_
      refine ar_push rfl ?_
      refine ar_ldA rfl rfl ?_
      refine ar_get rfl (hr.at 69 (by decide) (by decide) rfl) rfl ?_
      refine ar_push rfl ?_
      refine ar_bink (z := (-1)) rfl (by decide) ?_
      refine ar_callv rfl rfl (Nat.le_of_ble_eq_true rfl) (Nat.le_of_ble_eq_true rfl) rfl (sp_in _ _ _ _ _) ?_
      refine ar_ret rfl (bi_ret _) ?_
      show aRun _ (aCall Mt _) _ 5 (_, [_], _, _, _)
      refine ar_if1t rfl (bi_e0t (wi_n1 _)) ?_
      refine ar_push rfl ?_
      refine ar_ret rfl rfl ?_
      exact ⟨rfl, hJ _ _ _⟩
    · refine ar_ldI rfl rfl ?_
      refine ar_ldA rfl rfl ?_
      refine ar_get rfl rfl rfl ?_
      refine ar_if2t rfl (lt_f c3) ?_
      refine ar_push rfl ?_
      refine ar_ret rfl rfl ?_
      show aRun _ (aCall Mt _) _ 18 (_, [_], _, _, _)
      refine ar_svAk [some (.inr (.inr (some 0))), some (.inl _), some (.inl _), some (.inl _), some (.inr (.inr none)), some (.inr (.inr none)), none] rfl rfl ?_
      refine ar_ldA rfl rfl ?_
      refine ar_nulN rfl ?_
      refine ar_push rfl ?_
      refine ar_ret rfl rfl ?_
      refine ⟨_, 0, 0, _, rfl, Nat.zero_le _, Nat.zero_le _, rfl, ?_⟩
      refine rgen rFr_F (fun g hr => ?_)
      refine ac_ink [some (.inr (.inr (some 69))), some (.inl _), some (.inl _), some (.inl _), none] mt_282 (Nat.le_of_ble_eq_true rfl) rfl ?_
      refine ar_ldA rfl rfl ?_
      refine ar_ldI rfl rfl ?_
      refine ar_inl (mc := 0) (ms := 0) rfl (rcv_of (hr.at 69 (by decide) (by decide) rfl)) (Nat.le_of_ble_eq_true rfl) (Nat.le_of_ble_eq_true rfl) (by omega) (by omega) ?_
      refine ac_ink [some (.inr (.inr (some 69))), some (.inl _)] mt_187 (Nat.le_of_ble_eq_true rfl) rfl ?_
      refine ar_ldI rfl rfl ?_
      refine ar_push rfl ?_
      refine ar_ldA rfl rfl ?_
      refine ar_get rfl (hr.at 69 (by decide) (by decide) rfl) rfl ?_
      refine ar_push rfl ?_
      refine ar_bink (z := (-1)) rfl (by decide) ?_
      refine ar_callv rfl rfl (Nat.le_of_ble_eq_true rfl) (Nat.le_of_ble_eq_true rfl) rfl (sp_in _ _ _ _ _) ?_
      refine ar_ret rfl (bi_ret _) ?_
      show aRun _ (aCall Mt _) _ 5 (_, [_], _, _, _)
      refine ar_if1t rfl (bi_e0t (wi_n1 _)) ?_
      refine ar_push rfl ?_
      refine ar_ret rfl rfl ?_
      exact ⟨rfl, hJ _ _ _⟩

set_option maxRecDepth 20000 in
set_option maxHeartbeats 4000000 in
theorem p1_33 (x1 : Int32) (x2 : Int32) (x3 : Int32) (J : aH → Nat → Nat → Prop) (hJ : ∀ h a b, J h a b) (kc ks : Nat) (hkc : 1000 ≤ kc) (hks : 100000 ≤ ks) : aPairI 0 69 157 293 [.inl x1, .inl x2, .inl x3] J hF kc ks := by
  refine ⟨0, 0, _, by omega, by omega, rfl, ?_⟩
  refine ac_ink [some (.inr (.inr (some 0))), some (.inl _), some (.inl _), some (.inl _), none] mt_157 (Nat.le_of_ble_eq_true rfl) rfl ?_
  refine ar_ldA rfl rfl ?_
  refine ar_get rfl rfl rfl ?_
  refine ar_inl (mc := 0) (ms := 0) rfl (rcv_of rfl) (Nat.le_of_ble_eq_true rfl) (Nat.le_of_ble_eq_true rfl) (by omega) (by omega) ?_
  refine ac_ink [some (.inr (.inr (some 55)))] mt_1 (Nat.le_of_ble_eq_true rfl) rfl ?_
  refine ar_ldA rfl rfl ?_
  refine ar_push rfl ?_
  refine ar_put rfl rfl (Nat.le_of_ble_eq_true rfl) rfl ?_
  refine ar_ret0 rfl ?_
  show aRun _ (aCall Mt _) _ 7 (_, [], _, _, _)
  refine ar_ldA rfl rfl ?_
  refine ar_get rfl (hs_ne (by decide) rfl) rfl ?_
  refine ar_ldI rfl rfl ?_
  refine ar_inl (mc := 0) (ms := 0) rfl (rcv_of (hs_ne (by decide) rfl)) (Nat.le_of_ble_eq_true rfl) (Nat.le_of_ble_eq_true rfl) (by omega) (by omega) ?_
  refine ac_ink [some (.inr (.inr (some 15))), some (.inl _)] mt_8 (Nat.le_of_ble_eq_true rfl) rfl ?_
  refine ar_ldI rfl rfl ?_
  refine ar_if1 rfl (fun c1 => ?_) (fun c1 => ?_)
  · refine ar_push rfl ?_
    refine ar_ret rfl rfl ?_
    show aRun _ (aCall Mt _) _ 15 (_, [_], _, _, _)
    refine ar_svAk [some (.inr (.inr (some 0))), some (.inl _), some (.inl _), some (.inl _), some (.inr (.inr none))] rfl rfl ?_
    refine ar_ldA rfl rfl ?_
    refine ar_nulN rfl ?_
    refine ar_push rfl ?_
    refine ar_ret rfl rfl ?_
    refine ⟨_, 0, 0, _, rfl, Nat.zero_le _, Nat.zero_le _, (hs_ne (by decide) rfl), ?_⟩
    refine rgen (rFr_F.sets (by decide)) (fun g hr => ?_)
    refine ac_ink [some (.inr (.inr (some 69))), some (.inl _), some (.inl _), some (.inl _)] mt_293 (Nat.le_of_ble_eq_true rfl) rfl ?_
    refine ar_ldA rfl rfl ?_
    refine ar_push rfl ?_
    refine ar_put rfl (hr.at 69 (by decide) (by decide) rfl) (Nat.le_of_ble_eq_true rfl) rfl ?_
    refine ar_ldA rfl rfl ?_
    refine ar_ldI rfl rfl ?_
    refine ar_inl (mc := 0) (ms := 0) rfl (rcv_of (hs_eq (hr.at 69 (by decide) (by decide) rfl))) (Nat.le_of_ble_eq_true rfl) (Nat.le_of_ble_eq_true rfl) (by omega) (by omega) ?_
    refine ac_ink [some (.inr (.inr (some 69))), some (.inl _)] mt_233 (Nat.le_of_ble_eq_true rfl) rfl ?_
    refine ar_ldI rfl rfl ?_
    refine ar_push rfl ?_
    refine ar_ldA rfl rfl ?_
    refine ar_get rfl (hs_eq (hr.at 69 (by decide) (by decide) rfl)) rfl ?_
    refine ar_push rfl ?_
    refine ar_bink (z := (-1)) rfl (by decide) ?_
    refine ar_callv rfl rfl (Nat.le_of_ble_eq_true rfl) (Nat.le_of_ble_eq_true rfl) rfl (sp_in _ _ _ _ _) ?_
    refine ar_ret rfl (bi_ret _) ?_
    show aRun _ (aCall Mt _) _ 10 (_, [_], _, _, _)
    refine ar_if1t rfl (bi_e0t (wi_n1 _)) ?_
    refine ar_push rfl ?_
    refine ar_ret rfl rfl ?_
    exact ⟨rfl, hJ _ _ _⟩
  · refine ar_ldI rfl rfl ?_
    refine ar_ldA rfl rfl ?_
    refine ar_get rfl (hs_ne (by decide) rfl) rfl ?_
    refine ar_if2t rfl (lt_f c1) ?_
    refine ar_push rfl ?_
    refine ar_ret rfl rfl ?_
    show aRun _ (aCall Mt _) _ 15 (_, [_], _, _, _)
    refine ar_svAk [some (.inr (.inr (some 0))), some (.inl _), some (.inl _), some (.inl _), some (.inr (.inr none))] rfl rfl ?_
    refine ar_ldA rfl rfl ?_
    refine ar_nulN rfl ?_
    refine ar_push rfl ?_
    refine ar_ret rfl rfl ?_
    refine ⟨_, 0, 0, _, rfl, Nat.zero_le _, Nat.zero_le _, (hs_ne (by decide) rfl), ?_⟩
    refine rgen (rFr_F.sets (by decide)) (fun g hr => ?_)
    refine ac_ink [some (.inr (.inr (some 69))), some (.inl _), some (.inl _), some (.inl _)] mt_293 (Nat.le_of_ble_eq_true rfl) rfl ?_
    refine ar_ldA rfl rfl ?_
    refine ar_push rfl ?_
    refine ar_put rfl (hr.at 69 (by decide) (by decide) rfl) (Nat.le_of_ble_eq_true rfl) rfl ?_
    refine ar_ldA rfl rfl ?_
    refine ar_ldI rfl rfl ?_
    refine ar_inl (mc := 0) (ms := 0) rfl (rcv_of (hs_eq (hr.at 69 (by decide) (by decide) rfl))) (Nat.le_of_ble_eq_true rfl) (Nat.le_of_ble_eq_true rfl) (by omega) (by omega) ?_
    refine ac_ink [some (.inr (.inr (some 69))), some (.inl _)] mt_233 (Nat.le_of_ble_eq_true rfl) rfl ?_
    refine ar_ldI rfl rfl ?_
    refine ar_push rfl ?_
    refine ar_ldA rfl rfl ?_
    refine ar_get rfl (hs_eq (hr.at 69 (by decide) (by decide) rfl)) rfl ?_
    refine ar_push rfl ?_
    refine ar_bink (z := (-1)) rfl (by decide) ?_
    refine ar_callv rfl rfl (Nat.le_of_ble_eq_true rfl) (Nat.le_of_ble_eq_true rfl) rfl (sp_in _ _ _ _ _) ?_
    refine ar_ret rfl (bi_ret _) ?_
    show aRun _ (aCall Mt _) _ 10 (_, [_], _, _, _)
    refine ar_if1t rfl (bi_e0t (wi_n1 _)) ?_
    refine ar_push rfl ?_
    refine ar_ret rfl rfl ?_
    exact ⟨rfl, hJ _ _ _⟩

set_option maxRecDepth 20000 in
set_option maxHeartbeats 4000000 in
theorem p1_34 (x1 : Int32) (J : aH → Nat → Nat → Prop) (hJ : ∀ h a b, J h a b) (kc ks : Nat) (hkc : 1000 ≤ kc) (hks : 100000 ≤ ks) : aPairI 0 69 158 294 [.inl x1] J hF kc ks := by
  refine ⟨0, 0, _, by omega, by omega, rfl, ?_⟩
  refine ac_ink [some (.inr (.inr (some 0))), some (.inl _)] mt_158 (Nat.le_of_ble_eq_true rfl) rfl ?_
  refine ar_ldA rfl rfl ?_
  refine ar_get rfl rfl rfl ?_
  refine ar_ldI rfl rfl ?_
  refine ar_inl (mc := 0) (ms := 0) rfl (rcv_of rfl) (Nat.le_of_ble_eq_true rfl) (Nat.le_of_ble_eq_true rfl) (by omega) (by omega) ?_
  refine ac_ink [some (.inr (.inr (some 55))), some (.inl _)] mt_2 (Nat.le_of_ble_eq_true rfl) rfl ?_
  refine ar_ldI rfl rfl ?_
  refine ar_if1 rfl (fun c1 => ?_) (fun c1 => ?_)
  · refine ar_push rfl ?_
    refine ar_ret rfl rfl ?_
    show aRun _ (aCall Mt _) _ 8 (_, [_], _, _, _)
    refine ar_ret rfl rfl ?_
    refine ⟨_, 0, 0, _, rfl, Nat.zero_le _, Nat.zero_le _, rfl, ?_⟩
    refine rgen rFr_F (fun g hr => ?_)
    refine ac_ink [some (.inr (.inr (some 69))), some (.inl _)] mt_294 (Nat.le_of_ble_eq_true rfl) rfl ?_
    refine ar_ldI rfl rfl ?_
    refine ar_if1t rfl c1 ?_
    refine ar_push rfl ?_
    refine ar_ret rfl rfl ?_
    exact ⟨rfl, hJ _ _ _⟩
  · refine ar_ldI rfl rfl ?_
    refine ar_ldA rfl rfl ?_
    refine ar_get rfl rfl rfl ?_
    refine ar_if2t rfl (lt_f c1) ?_
    refine ar_push rfl ?_
    refine ar_ret rfl rfl ?_
    show aRun _ (aCall Mt _) _ 8 (_, [_], _, _, _)
    refine ar_ret rfl rfl ?_
    refine ⟨_, 0, 0, _, rfl, Nat.zero_le _, Nat.zero_le _, rfl, ?_⟩
    refine rgen rFr_F (fun g hr => ?_)
    refine ac_ink [some (.inr (.inr (some 69))), some (.inl _)] mt_294 (Nat.le_of_ble_eq_true rfl) rfl ?_
    refine ar_ldI rfl rfl ?_
    refine ar_if1f rfl c1 ?_
    refine ar_ldI rfl rfl ?_
    refine ar_ldA rfl rfl ?_
    refine ar_get rfl (hr.at 69 (by decide) (by decide) rfl) rfl ?_
    refine ar_if2t rfl (lt_f c1) ?_
    refine ar_push rfl ?_
    refine ar_ret rfl rfl ?_
    exact ⟨rfl, hJ _ _ _⟩

set_option maxRecDepth 20000 in
set_option maxHeartbeats 4000000 in
theorem p1_35 (x1 : Int32) (x2 : Int32) (J : aH → Nat → Nat → Prop) (hJ : ∀ h a b, J h a b) (kc ks : Nat) (hkc : 1000 ≤ kc) (hks : 100000 ≤ ks) : aPairI 0 69 159 297 [.inl x1, .inl x2] J hF kc ks := by
  refine ⟨0, 0, _, by omega, by omega, rfl, ?_⟩
  refine ac_ink [some (.inr (.inr (some 0))), some (.inl _), some (.inl _)] mt_159 (Nat.le_of_ble_eq_true rfl) rfl ?_
  refine ar_ldA rfl rfl ?_
  refine ar_get rfl rfl rfl ?_
  refine ar_ldI rfl rfl ?_
  refine ar_inl (mc := 0) (ms := 0) rfl (rcv_of rfl) (Nat.le_of_ble_eq_true rfl) (Nat.le_of_ble_eq_true rfl) (by omega) (by omega) ?_
  refine ac_ink [some (.inr (.inr (some 57))), some (.inl _)] mt_31 (Nat.le_of_ble_eq_true rfl) rfl ?_
  refine ar_ldI rfl rfl ?_
  refine ar_push rfl ?_
  refine ar_push rfl ?_
  refine ar_callv rfl rfl (Nat.le_of_ble_eq_true rfl) (Nat.le_of_ble_eq_true rfl) rfl (sp_within _ _ _ _ _) ?_
  refine ar_ret rfl (bi_ret _) ?_
  show aRun _ (aCall Mt _) _ 8 (_, [_], _, _, _)
  refine ar_neB rfl (fun c1 => ?_) (fun c1 => ?_)
  · refine ar_ldI rfl rfl ?_
    refine ar_push rfl ?_
    refine ar_if2 rfl (fun c2 => ?_) (fun c2 => ?_)
    · refine ar_ldA rfl rfl ?_
      refine ar_get rfl rfl rfl ?_
      refine ar_ldI rfl rfl ?_
      refine ar_inl (mc := 0) (ms := 0) rfl (rcv_of rfl) (Nat.le_of_ble_eq_true rfl) (Nat.le_of_ble_eq_true rfl) (by omega) (by omega) ?_
      refine ac_ink [some (.inr (.inr (some 15))), some (.inl _)] mt_8 (Nat.le_of_ble_eq_true rfl) rfl ?_
      refine ar_ldI rfl rfl ?_
      refine ar_if1 rfl (fun c3 => ?_) (fun c3 => ?_)
      · refine ar_push rfl ?_
        refine ar_ret rfl rfl ?_
        show aRun _ (aCall Mt _) _ 36 (_, [_], _, _, _)
        refine ar_nulN rfl ?_
        refine ar_push rfl ?_
        refine ar_ret rfl rfl ?_
        refine ⟨_, 0, 0, _, rfl, Nat.zero_le _, Nat.zero_le _, rfl, ?_⟩
        refine rgen rFr_F (fun g hr => ?_)
        refine ac_ink [some (.inr (.inr (some 69))), some (.inl _), some (.inl _)] mt_297 (Nat.le_of_ble_eq_true rfl) rfl ?_
        refine ar_ldI rfl rfl ?_
        refine ar_inl (mc := 0) (ms := 0) rfl rfl (Nat.le_of_ble_eq_true rfl) (Nat.le_of_ble_eq_true rfl) (by omega) (by omega) ?_
        refine ac_ink [some (.inl _)] mt_296 (Nat.le_of_ble_eq_true rfl) rfl ?_
        refine ar_ldI rfl rfl ?_
        refine ar_push rfl ?_
        refine ar_push rfl ?_
        refine ar_callv rfl rfl (Nat.le_of_ble_eq_true rfl) (Nat.le_of_ble_eq_true rfl) rfl (sp_in _ _ _ _ _) ?_
        refine ar_ret rfl (bi_ret _) ?_
        show aRun _ (aCall Mt _) _ 4 (_, [_], _, _, _)
        refine ar_if1f rfl (bi_e0f c1) ?_
        refine ar_ldI rfl rfl ?_
        refine ar_push rfl ?_
        refine ar_if2f rfl (ne_t c2) ?_
        refine ar_ldA rfl rfl ?_
        refine ar_ldI rfl rfl ?_
        refine ar_inl (mc := 0) (ms := 0) rfl (rcv_of (hr.at 69 (by decide) (by decide) rfl)) (Nat.le_of_ble_eq_true rfl) (Nat.le_of_ble_eq_true rfl) (by omega) (by omega) ?_
        refine ac_ink [some (.inr (.inr (some 69))), some (.inl _)] mt_233 (Nat.le_of_ble_eq_true rfl) rfl ?_
        refine ar_ldI rfl rfl ?_
        refine ar_push rfl ?_
        refine ar_ldA rfl rfl ?_
        refine ar_get rfl (hr.at 69 (by decide) (by decide) rfl) rfl ?_
        refine ar_push rfl ?_
        refine ar_bink (z := (-1)) rfl (by decide) ?_
        refine ar_callv rfl rfl (Nat.le_of_ble_eq_true rfl) (Nat.le_of_ble_eq_true rfl) rfl (sp_in _ _ _ _ _) ?_
        refine ar_ret rfl (bi_ret _) ?_
        show aRun _ (aCall Mt _) _ 17 (_, [_], _, _, _)
        refine ar_if1f rfl (bi_n0f (wi_n1 _)) ?_
        refine ar_push rfl ?_
        refine ar_ret rfl rfl ?_
        exact ⟨rfl, hJ _ _ _⟩
      · refine ar_ldI rfl rfl ?_
        refine ar_ldA rfl rfl ?_
        refine ar_get rfl rfl rfl ?_
        refine ar_if2t rfl (lt_f c3) ?_
        refine ar_push rfl ?_
        refine ar_ret rfl rfl ?_
        show aRun _ (aCall Mt _) _ 36 (_, [_], _, _, _)
        refine ar_nulN rfl ?_
        refine ar_push rfl ?_
        refine ar_ret rfl rfl ?_
        refine ⟨_, 0, 0, _, rfl, Nat.zero_le _, Nat.zero_le _, rfl, ?_⟩
        refine rgen rFr_F (fun g hr => ?_)
        refine ac_ink [some (.inr (.inr (some 69))), some (.inl _), some (.inl _)] mt_297 (Nat.le_of_ble_eq_true rfl) rfl ?_
        refine ar_ldI rfl rfl ?_
        refine ar_inl (mc := 0) (ms := 0) rfl rfl (Nat.le_of_ble_eq_true rfl) (Nat.le_of_ble_eq_true rfl) (by omega) (by omega) ?_
        refine ac_ink [some (.inl _)] mt_296 (Nat.le_of_ble_eq_true rfl) rfl ?_
        refine ar_ldI rfl rfl ?_
        refine ar_push rfl ?_
        refine ar_push rfl ?_
        refine ar_callv rfl rfl (Nat.le_of_ble_eq_true rfl) (Nat.le_of_ble_eq_true rfl) rfl (sp_in _ _ _ _ _) ?_
        refine ar_ret rfl (bi_ret _) ?_
        show aRun _ (aCall Mt _) _ 4 (_, [_], _, _, _)
        refine ar_if1f rfl (bi_e0f c1) ?_
        refine ar_ldI rfl rfl ?_
        refine ar_push rfl ?_
        refine ar_if2f rfl (ne_t c2) ?_
        refine ar_ldA rfl rfl ?_
        refine ar_ldI rfl rfl ?_
        refine ar_inl (mc := 0) (ms := 0) rfl (rcv_of (hr.at 69 (by decide) (by decide) rfl)) (Nat.le_of_ble_eq_true rfl) (Nat.le_of_ble_eq_true rfl) (by omega) (by omega) ?_
        refine ac_ink [some (.inr (.inr (some 69))), some (.inl _)] mt_233 (Nat.le_of_ble_eq_true rfl) rfl ?_
        refine ar_ldI rfl rfl ?_
        refine ar_push rfl ?_
        refine ar_ldA rfl rfl ?_
        refine ar_get rfl (hr.at 69 (by decide) (by decide) rfl) rfl ?_
        refine ar_push rfl ?_
        refine ar_bink (z := (-1)) rfl (by decide) ?_
        refine ar_callv rfl rfl (Nat.le_of_ble_eq_true rfl) (Nat.le_of_ble_eq_true rfl) rfl (sp_in _ _ _ _ _) ?_
        refine ar_ret rfl (bi_ret _) ?_
        show aRun _ (aCall Mt _) _ 17 (_, [_], _, _, _)
        refine ar_if1f rfl (bi_n0f (wi_n1 _)) ?_
        refine ar_push rfl ?_
        refine ar_ret rfl rfl ?_
        exact ⟨rfl, hJ _ _ _⟩
    · refine ar_ldA rfl rfl ?_
      refine ar_get rfl rfl rfl ?_
      refine ar_ldI rfl rfl ?_
      refine ar_inl (mc := 0) (ms := 0) rfl (rcv_of rfl) (Nat.le_of_ble_eq_true rfl) (Nat.le_of_ble_eq_true rfl) (by omega) (by omega) ?_
      refine ac_ink [some (.inr (.inr (some 57))), some (.inl _)] mt_39 (Nat.le_of_ble_eq_true rfl) rfl ?_
      refine ar_ldA rfl rfl ?_
      refine ar_ldI rfl rfl ?_
      refine ar_inl (mc := 0) (ms := 0) rfl (rcv_of rfl) (Nat.le_of_ble_eq_true rfl) (Nat.le_of_ble_eq_true rfl) (by omega) (by omega) ?_
      refine ac_ink [some (.inr (.inr (some 57))), some (.inl _)] mt_31 (Nat.le_of_ble_eq_true rfl) rfl ?_
      refine ar_ldI rfl rfl ?_
      refine ar_push rfl ?_
      refine ar_push rfl ?_
      refine ar_callv rfl rfl (Nat.le_of_ble_eq_true rfl) (Nat.le_of_ble_eq_true rfl) rfl (sp_within _ _ _ _ _) ?_
      refine ar_ret rfl (bi_ret _) ?_
      show aRun _ (aCall Mt _) _ 5 (_, [_], _, _, _)
      refine ar_if1f rfl (bi_e0f c1) ?_
      refine ar_ldA rfl rfl ?_
      refine ar_get rfl rfl rfl ?_
      refine ar_ldI rfl rfl ?_
      refine ar_push rfl ?_
      refine ar_ast rfl rfl (wi_ix (m := 6) c1 (by decide)).1 (Nat.lt_of_lt_of_eq (wi_ix (m := 6) c1 (by decide)).2 (by simp)) ?_
      refine ar_ret0 rfl ?_
      show aRun _ (aCall Mt _) _ 26 (_, [], _, _, _)
      refine ar_push rfl ?_
      refine ar_ret rfl rfl ?_
      refine ⟨_, 0, 0, _, rfl, Nat.zero_le _, Nat.zero_le _, (hs_ne (by decide) rfl), ?_⟩
      refine rgen (rFr_F.sets (by decide)) (fun g hr => ?_)
      refine ac_ink [some (.inr (.inr (some 69))), some (.inl _), some (.inl _)] mt_297 (Nat.le_of_ble_eq_true rfl) rfl ?_
      refine ar_ldI rfl rfl ?_
      refine ar_inl (mc := 0) (ms := 0) rfl rfl (Nat.le_of_ble_eq_true rfl) (Nat.le_of_ble_eq_true rfl) (by omega) (by omega) ?_
      refine ac_ink [some (.inl _)] mt_296 (Nat.le_of_ble_eq_true rfl) rfl ?_
      refine ar_ldI rfl rfl ?_
      refine ar_push rfl ?_
      refine ar_push rfl ?_
      refine ar_callv rfl rfl (Nat.le_of_ble_eq_true rfl) (Nat.le_of_ble_eq_true rfl) rfl (sp_in _ _ _ _ _) ?_
      refine ar_ret rfl (bi_ret _) ?_
      show aRun _ (aCall Mt _) _ 4 (_, [_], _, _, _)
      refine ar_if1f rfl (bi_e0f c1) ?_
      refine ar_ldI rfl rfl ?_
      refine ar_push rfl ?_
      refine ar_if2t rfl (ne_f c2) ?_
      refine ar_ldA rfl rfl ?_
      refine ar_get rfl (hr.at 69 (by decide) (by decide) rfl) rfl ?_
      refine ar_ldI rfl rfl ?_
      refine ar_ldI rfl rfl ?_
      refine ar_ast rfl (hr.at 110 (by decide) (by decide) rfl) (wi_ix (m := 6) c1 (by decide)).1 (Nat.lt_of_lt_of_eq (wi_ix (m := 6) c1 (by decide)).2 (by simp)) ?_
      refine ar_push rfl ?_
      refine ar_ret rfl rfl ?_
      exact ⟨rfl, hJ _ _ _⟩
  · refine ar_push rfl ?_
    refine ar_ret rfl rfl ?_
    refine ⟨_, 0, 0, _, rfl, Nat.zero_le _, Nat.zero_le _, rfl, ?_⟩
    refine rgen rFr_F (fun g hr => ?_)
    refine ac_ink [some (.inr (.inr (some 69))), some (.inl _), some (.inl _)] mt_297 (Nat.le_of_ble_eq_true rfl) rfl ?_
    refine ar_ldI rfl rfl ?_
    refine ar_inl (mc := 0) (ms := 0) rfl rfl (Nat.le_of_ble_eq_true rfl) (Nat.le_of_ble_eq_true rfl) (by omega) (by omega) ?_
    refine ac_ink [some (.inl _)] mt_296 (Nat.le_of_ble_eq_true rfl) rfl ?_
    refine ar_ldI rfl rfl ?_
    refine ar_push rfl ?_
    refine ar_push rfl ?_
    refine ar_callv rfl rfl (Nat.le_of_ble_eq_true rfl) (Nat.le_of_ble_eq_true rfl) rfl (sp_in _ _ _ _ _) ?_
    refine ar_ret rfl (bi_ret _) ?_
    show aRun _ (aCall Mt _) _ 4 (_, [_], _, _, _)
    refine ar_if1t rfl (bi_e0t c1) ?_
    refine ar_push rfl ?_
    refine ar_ret rfl rfl ?_
    exact ⟨rfl, hJ _ _ _⟩

set_option maxRecDepth 20000 in
set_option maxHeartbeats 4000000 in
theorem p1_37 (x1 : Int32) (x2 : Int32) (x3 : Int64) (J : aH → Nat → Nat → Prop) (hJ : ∀ h a b, J h a b) (kc ks : Nat) (hkc : 1000 ≤ kc) (hks : 100000 ≤ ks) : aPairI 0 69 161 300 [.inl x1, .inl x2, .inr (.inl x3)] J hF kc ks := by
  refine ⟨0, 0, _, by omega, by omega, rfl, ?_⟩
  refine ac_ink [some (.inr (.inr (some 0))), some (.inl _), some (.inl _), some (.inr (.inl _)), none, none] mt_161 (Nat.le_of_ble_eq_true rfl) rfl ?_
  refine ar_ldA rfl rfl ?_
  refine ar_get rfl rfl rfl ?_
  refine ar_ldI rfl rfl ?_
  refine ar_ldI rfl rfl ?_
  refine ar_inl (mc := 0) (ms := 0) rfl (rcv_of rfl) (Nat.le_of_ble_eq_true rfl) (Nat.le_of_ble_eq_true rfl) (by omega) (by omega) ?_
  refine ac_ink [some (.inr (.inr (some 57))), some (.inl _), some (.inl _)] mt_42 (Nat.le_of_ble_eq_true rfl) rfl ?_
  refine ar_ldA rfl rfl ?_
  refine ar_ldI rfl rfl ?_
  refine ar_inl (mc := 0) (ms := 0) rfl (rcv_of rfl) (Nat.le_of_ble_eq_true rfl) (Nat.le_of_ble_eq_true rfl) (by omega) (by omega) ?_
  refine ac_ink [some (.inr (.inr (some 57))), some (.inl _)] mt_31 (Nat.le_of_ble_eq_true rfl) rfl ?_
  refine ar_ldI rfl rfl ?_
  refine ar_push rfl ?_
  refine ar_push rfl ?_
  refine ar_callv rfl rfl (Nat.le_of_ble_eq_true rfl) (Nat.le_of_ble_eq_true rfl) rfl (sp_within _ _ _ _ _) ?_
  refine ar_ret rfl (bi_ret _) ?_
  show aRun _ (aCall Mt _) _ 5 (_, [_], _, _, _)
  refine ar_neB rfl (fun c1 => ?_) (fun c1 => ?_)
  · refine ar_ldA rfl rfl ?_
    refine ar_ldI rfl rfl ?_
    refine ar_inl (mc := 0) (ms := 0) rfl (rcv_of rfl) (Nat.le_of_ble_eq_true rfl) (Nat.le_of_ble_eq_true rfl) (by omega) (by omega) ?_
    refine ac_ink [some (.inr (.inr (some 57))), some (.inl _)] mt_32 (Nat.le_of_ble_eq_true rfl) rfl ?_
    refine ar_ldA rfl rfl ?_
    refine ar_ldI rfl rfl ?_
    refine ar_inl (mc := 0) (ms := 0) rfl (rcv_of rfl) (Nat.le_of_ble_eq_true rfl) (Nat.le_of_ble_eq_true rfl) (by omega) (by omega) ?_
    refine ac_ink [some (.inr (.inr (some 57))), some (.inl _)] mt_31 (Nat.le_of_ble_eq_true rfl) rfl ?_
    refine ar_ldI rfl rfl ?_
    refine ar_push rfl ?_
    refine ar_push rfl ?_
    refine ar_callv rfl rfl (Nat.le_of_ble_eq_true rfl) (Nat.le_of_ble_eq_true rfl) rfl (sp_within _ _ _ _ _) ?_
    refine ar_ret rfl (bi_ret _) ?_
    show aRun _ (aCall Mt _) _ 5 (_, [_], _, _, _)
    refine ar_if1f rfl (bi_e0f c1) ?_
    refine ar_ldA rfl rfl ?_
    refine ar_get rfl rfl rfl ?_
    refine ar_ldI rfl rfl ?_
    refine ar_ald rfl rfl (wi_ix (m := 6) c1 (by decide)).1 (rep_get (wi_ix (m := 6) c1 (by decide)).2) ?_
    refine ar_if1f rfl (by decide) ?_
    refine ar_push rfl ?_
    refine ar_go rfl ?_
    refine ar_ret rfl rfl ?_
    show aRun _ (aCall Mt _) _ 15 (_, [_], _, _, _)
    refine ar_if1f rfl (by decide) ?_
    refine ar_push rfl ?_
    refine ar_ret rfl rfl ?_
    show aRun _ (aCall Mt _) _ 9 (_, [_], _, _, _)
    refine ar_svIk [some (.inr (.inr (some 0))), some (.inl _), some (.inl _), some (.inr (.inl _)), none, some (.inl (-11))] rfl rfl ?_
    refine ar_ldI rfl rfl ?_
    refine ar_if1f rfl (by decide) ?_
    refine ar_ldI rfl rfl ?_
    refine ar_ret rfl rfl ?_
    refine ⟨_, 0, 0, _, rfl, Nat.zero_le _, Nat.zero_le _, rfl, ?_⟩
    refine rgen rFr_F (fun g hr => ?_)
    refine ac_ink [some (.inr (.inr (some 69))), some (.inl _), some (.inl _), some (.inr (.inl _)), none, none, none] mt_300 (Nat.le_of_ble_eq_true rfl) rfl ?_
    refine ar_ldA rfl rfl ?_
    refine ar_ldI rfl rfl ?_
    refine ar_ldI rfl rfl ?_
    refine ar_inl (mc := 0) (ms := 0) rfl (rcv_of (hr.at 69 (by decide) (by decide) rfl)) (Nat.le_of_ble_eq_true rfl) (Nat.le_of_ble_eq_true rfl) (by omega) (by omega) ?_
    refine ac_ink [some (.inr (.inr (some 69))), some (.inl _), some (.inl _)] mt_299 (Nat.le_of_ble_eq_true rfl) rfl ?_
    refine ar_ldI rfl rfl ?_
    refine ar_inl (mc := 0) (ms := 0) rfl rfl (Nat.le_of_ble_eq_true rfl) (Nat.le_of_ble_eq_true rfl) (by omega) (by omega) ?_
    refine ac_ink [some (.inl _)] mt_296 (Nat.le_of_ble_eq_true rfl) rfl ?_
    refine ar_ldI rfl rfl ?_
    refine ar_push rfl ?_
    refine ar_push rfl ?_
    refine ar_callv rfl rfl (Nat.le_of_ble_eq_true rfl) (Nat.le_of_ble_eq_true rfl) rfl (sp_in _ _ _ _ _) ?_
    refine ar_ret rfl (bi_ret _) ?_
    show aRun _ (aCall Mt _) _ 4 (_, [_], _, _, _)
    refine ar_if1t rfl (bi_n0t c1) ?_
    refine ar_ldA rfl rfl ?_
    refine ar_get rfl (hr.at 69 (by decide) (by decide) rfl) rfl ?_
    refine ar_ldI rfl rfl ?_
    refine ar_ald rfl (hr.at 110 (by decide) (by decide) rfl) (wi_ix (m := 6) c1 (by decide)).1 (rep_get (wi_ix (m := 6) c1 (by decide)).2) ?_
    refine ar_push rfl ?_
    refine ar_if2f rfl (by decide) ?_
    refine ar_push rfl ?_
    refine ar_ret rfl rfl ?_
    show aRun _ (aCall Mt _) _ 6 (_, [_], _, _, _)
    refine ar_svIk [some (.inr (.inr (some 69))), some (.inl _), some (.inl _), some (.inr (.inl _)), none, some (.inl (-11)), none] rfl rfl ?_
    refine ar_ldI rfl rfl ?_
    refine ar_if1f rfl (by decide) ?_
    refine ar_ldI rfl rfl ?_
    refine ar_ret rfl rfl ?_
    exact ⟨rfl, hJ _ _ _⟩
  · refine ar_push rfl ?_
    refine ar_ret rfl rfl ?_
    show aRun _ (aCall Mt _) _ 9 (_, [_], _, _, _)
    refine ar_svIk [some (.inr (.inr (some 0))), some (.inl _), some (.inl _), some (.inr (.inl _)), none, some (.inl (-1))] rfl rfl ?_
    refine ar_ldI rfl rfl ?_
    refine ar_if1f rfl (by decide) ?_
    refine ar_ldI rfl rfl ?_
    refine ar_ret rfl rfl ?_
    refine ⟨_, 0, 0, _, rfl, Nat.zero_le _, Nat.zero_le _, rfl, ?_⟩
    refine rgen rFr_F (fun g hr => ?_)
    refine ac_ink [some (.inr (.inr (some 69))), some (.inl _), some (.inl _), some (.inr (.inl _)), none, none, none] mt_300 (Nat.le_of_ble_eq_true rfl) rfl ?_
    refine ar_ldA rfl rfl ?_
    refine ar_ldI rfl rfl ?_
    refine ar_ldI rfl rfl ?_
    refine ar_inl (mc := 0) (ms := 0) rfl (rcv_of (hr.at 69 (by decide) (by decide) rfl)) (Nat.le_of_ble_eq_true rfl) (Nat.le_of_ble_eq_true rfl) (by omega) (by omega) ?_
    refine ac_ink [some (.inr (.inr (some 69))), some (.inl _), some (.inl _)] mt_299 (Nat.le_of_ble_eq_true rfl) rfl ?_
    refine ar_ldI rfl rfl ?_
    refine ar_inl (mc := 0) (ms := 0) rfl rfl (Nat.le_of_ble_eq_true rfl) (Nat.le_of_ble_eq_true rfl) (by omega) (by omega) ?_
    refine ac_ink [some (.inl _)] mt_296 (Nat.le_of_ble_eq_true rfl) rfl ?_
    refine ar_ldI rfl rfl ?_
    refine ar_push rfl ?_
    refine ar_push rfl ?_
    refine ar_callv rfl rfl (Nat.le_of_ble_eq_true rfl) (Nat.le_of_ble_eq_true rfl) rfl (sp_in _ _ _ _ _) ?_
    refine ar_ret rfl (bi_ret _) ?_
    show aRun _ (aCall Mt _) _ 4 (_, [_], _, _, _)
    refine ar_if1f rfl (bi_n0f c1) ?_
    refine ar_push rfl ?_
    refine ar_ret rfl rfl ?_
    show aRun _ (aCall Mt _) _ 6 (_, [_], _, _, _)
    refine ar_svIk [some (.inr (.inr (some 69))), some (.inl _), some (.inl _), some (.inr (.inl _)), none, some (.inl (-1)), none] rfl rfl ?_
    refine ar_ldI rfl rfl ?_
    refine ar_if1f rfl (by decide) ?_
    refine ar_ldI rfl rfl ?_
    refine ar_ret rfl rfl ?_
    exact ⟨rfl, hJ _ _ _⟩

set_option maxRecDepth 20000 in
set_option maxHeartbeats 4000000 in
theorem p1_38 (x1 : Int32) (x2 : Int32) (J : aH → Nat → Nat → Prop) (hJ : ∀ h a b, J h a b) (kc ks : Nat) (hkc : 1000 ≤ kc) (hks : 100000 ≤ ks) : aPairJ 0 69 162 301 [.inl x1, .inl x2] J hF kc ks := by
  refine ⟨0, 0, _, by omega, by omega, rfl, ?_⟩
  refine ac_ink [some (.inr (.inr (some 0))), some (.inl _), some (.inl _)] mt_162 (Nat.le_of_ble_eq_true rfl) rfl ?_
  refine ar_ldA rfl rfl ?_
  refine ar_get rfl rfl rfl ?_
  refine ar_ldI rfl rfl ?_
  refine ar_ldI rfl rfl ?_
  refine ar_inl (mc := 0) (ms := 0) rfl (rcv_of rfl) (Nat.le_of_ble_eq_true rfl) (Nat.le_of_ble_eq_true rfl) (by omega) (by omega) ?_
  refine ac_ink [some (.inr (.inr (some 57))), some (.inl _), some (.inl _)] mt_42 (Nat.le_of_ble_eq_true rfl) rfl ?_
  refine ar_ldA rfl rfl ?_
  refine ar_ldI rfl rfl ?_
  refine ar_inl (mc := 0) (ms := 0) rfl (rcv_of rfl) (Nat.le_of_ble_eq_true rfl) (Nat.le_of_ble_eq_true rfl) (by omega) (by omega) ?_
  refine ac_ink [some (.inr (.inr (some 57))), some (.inl _)] mt_31 (Nat.le_of_ble_eq_true rfl) rfl ?_
  refine ar_ldI rfl rfl ?_
  refine ar_push rfl ?_
  refine ar_push rfl ?_
  refine ar_callv rfl rfl (Nat.le_of_ble_eq_true rfl) (Nat.le_of_ble_eq_true rfl) rfl (sp_within _ _ _ _ _) ?_
  refine ar_ret rfl (bi_ret _) ?_
  show aRun _ (aCall Mt _) _ 5 (_, [_], _, _, _)
  refine ar_neB rfl (fun c1 => ?_) (fun c1 => ?_)
  · refine ar_ldA rfl rfl ?_
    refine ar_ldI rfl rfl ?_
    refine ar_inl (mc := 0) (ms := 0) rfl (rcv_of rfl) (Nat.le_of_ble_eq_true rfl) (Nat.le_of_ble_eq_true rfl) (by omega) (by omega) ?_
    refine ac_ink [some (.inr (.inr (some 57))), some (.inl _)] mt_32 (Nat.le_of_ble_eq_true rfl) rfl ?_
    refine ar_ldA rfl rfl ?_
    refine ar_ldI rfl rfl ?_
    refine ar_inl (mc := 0) (ms := 0) rfl (rcv_of rfl) (Nat.le_of_ble_eq_true rfl) (Nat.le_of_ble_eq_true rfl) (by omega) (by omega) ?_
    refine ac_ink [some (.inr (.inr (some 57))), some (.inl _)] mt_31 (Nat.le_of_ble_eq_true rfl) rfl ?_
    refine ar_ldI rfl rfl ?_
    refine ar_push rfl ?_
    refine ar_push rfl ?_
    refine ar_callv rfl rfl (Nat.le_of_ble_eq_true rfl) (Nat.le_of_ble_eq_true rfl) rfl (sp_within _ _ _ _ _) ?_
    refine ar_ret rfl (bi_ret _) ?_
    show aRun _ (aCall Mt _) _ 5 (_, [_], _, _, _)
    refine ar_if1f rfl (bi_e0f c1) ?_
    refine ar_ldA rfl rfl ?_
    refine ar_get rfl rfl rfl ?_
    refine ar_ldI rfl rfl ?_
    refine ar_ald rfl rfl (wi_ix (m := 6) c1 (by decide)).1 (rep_get (wi_ix (m := 6) c1 (by decide)).2) ?_
    refine ar_if1f rfl (by decide) ?_
    refine ar_push rfl ?_
    refine ar_go rfl ?_
    refine ar_ret rfl rfl ?_
    show aRun _ (aCall Mt _) _ 15 (_, [_], _, _, _)
    refine ar_if1f rfl (by decide) ?_
    refine ar_push rfl ?_
    refine ar_ret rfl rfl ?_
    show aRun _ (aCall Mt _) _ 9 (_, [_], _, _, _)
    refine ar_if1f rfl (by decide) ?_
    refine ar_push rfl ?_
    refine ar_ret rfl rfl ?_
    refine ⟨_, 0, 0, _, rfl, Nat.zero_le _, Nat.zero_le _, rfl, ?_⟩
    refine rgen rFr_F (fun g hr => ?_)
    refine ac_ink [some (.inr (.inr (some 69))), some (.inl _), some (.inl _)] mt_301 (Nat.le_of_ble_eq_true rfl) rfl ?_
    refine ar_ldA rfl rfl ?_
    refine ar_ldI rfl rfl ?_
    refine ar_ldI rfl rfl ?_
    refine ar_inl (mc := 0) (ms := 0) rfl (rcv_of (hr.at 69 (by decide) (by decide) rfl)) (Nat.le_of_ble_eq_true rfl) (Nat.le_of_ble_eq_true rfl) (by omega) (by omega) ?_
    refine ac_ink [some (.inr (.inr (some 69))), some (.inl _), some (.inl _)] mt_299 (Nat.le_of_ble_eq_true rfl) rfl ?_
    refine ar_ldI rfl rfl ?_
    refine ar_inl (mc := 0) (ms := 0) rfl rfl (Nat.le_of_ble_eq_true rfl) (Nat.le_of_ble_eq_true rfl) (by omega) (by omega) ?_
    refine ac_ink [some (.inl _)] mt_296 (Nat.le_of_ble_eq_true rfl) rfl ?_
    refine ar_ldI rfl rfl ?_
    refine ar_push rfl ?_
    refine ar_push rfl ?_
    refine ar_callv rfl rfl (Nat.le_of_ble_eq_true rfl) (Nat.le_of_ble_eq_true rfl) rfl (sp_in _ _ _ _ _) ?_
    refine ar_ret rfl (bi_ret _) ?_
    show aRun _ (aCall Mt _) _ 4 (_, [_], _, _, _)
    refine ar_if1t rfl (bi_n0t c1) ?_
    refine ar_ldA rfl rfl ?_
    refine ar_get rfl (hr.at 69 (by decide) (by decide) rfl) rfl ?_
    refine ar_ldI rfl rfl ?_
    refine ar_ald rfl (hr.at 110 (by decide) (by decide) rfl) (wi_ix (m := 6) c1 (by decide)).1 (rep_get (wi_ix (m := 6) c1 (by decide)).2) ?_
    refine ar_push rfl ?_
    refine ar_if2f rfl (by decide) ?_
    refine ar_push rfl ?_
    refine ar_ret rfl rfl ?_
    show aRun _ (aCall Mt _) _ 6 (_, [_], _, _, _)
    refine ar_if1f rfl (by decide) ?_
    refine ar_push rfl ?_
    refine ar_go rfl ?_
    refine ar_ret rfl rfl ?_
    exact ⟨rfl, hJ _ _ _⟩
  · refine ar_push rfl ?_
    refine ar_ret rfl rfl ?_
    show aRun _ (aCall Mt _) _ 9 (_, [_], _, _, _)
    refine ar_if1f rfl (by decide) ?_
    refine ar_push rfl ?_
    refine ar_ret rfl rfl ?_
    refine ⟨_, 0, 0, _, rfl, Nat.zero_le _, Nat.zero_le _, rfl, ?_⟩
    refine rgen rFr_F (fun g hr => ?_)
    refine ac_ink [some (.inr (.inr (some 69))), some (.inl _), some (.inl _)] mt_301 (Nat.le_of_ble_eq_true rfl) rfl ?_
    refine ar_ldA rfl rfl ?_
    refine ar_ldI rfl rfl ?_
    refine ar_ldI rfl rfl ?_
    refine ar_inl (mc := 0) (ms := 0) rfl (rcv_of (hr.at 69 (by decide) (by decide) rfl)) (Nat.le_of_ble_eq_true rfl) (Nat.le_of_ble_eq_true rfl) (by omega) (by omega) ?_
    refine ac_ink [some (.inr (.inr (some 69))), some (.inl _), some (.inl _)] mt_299 (Nat.le_of_ble_eq_true rfl) rfl ?_
    refine ar_ldI rfl rfl ?_
    refine ar_inl (mc := 0) (ms := 0) rfl rfl (Nat.le_of_ble_eq_true rfl) (Nat.le_of_ble_eq_true rfl) (by omega) (by omega) ?_
    refine ac_ink [some (.inl _)] mt_296 (Nat.le_of_ble_eq_true rfl) rfl ?_
    refine ar_ldI rfl rfl ?_
    refine ar_push rfl ?_
    refine ar_push rfl ?_
    refine ar_callv rfl rfl (Nat.le_of_ble_eq_true rfl) (Nat.le_of_ble_eq_true rfl) rfl (sp_in _ _ _ _ _) ?_
    refine ar_ret rfl (bi_ret _) ?_
    show aRun _ (aCall Mt _) _ 4 (_, [_], _, _, _)
    refine ar_if1f rfl (bi_n0f c1) ?_
    refine ar_push rfl ?_
    refine ar_ret rfl rfl ?_
    show aRun _ (aCall Mt _) _ 6 (_, [_], _, _, _)
    refine ar_if1f rfl (by decide) ?_
    refine ar_push rfl ?_
    refine ar_go rfl ?_
    refine ar_ret rfl rfl ?_
    exact ⟨rfl, hJ _ _ _⟩

set_option maxRecDepth 20000 in
set_option maxHeartbeats 4000000 in
theorem p1_39 (x1 : Int32) (x2 : Int32) (x3 : Int32) (x4 : Int32) (x5 : Int32) (J : aH → Nat → Nat → Prop) (hJ : ∀ h a b, J h a b) (kc ks : Nat) (hkc : 1000 ≤ kc) (hks : 100000 ≤ ks) : aPairI 0 69 163 302 [.inl x1, .inl x2, .inl x3, .inl x4, .inl x5] J hF kc ks := by
  refine ⟨0, 0, _, by omega, by omega, rfl, ?_⟩
  refine ac_ink [some (.inr (.inr (some 0))), some (.inl _), some (.inl _), some (.inl _), some (.inl _), some (.inl _)] mt_163 (Nat.le_of_ble_eq_true rfl) rfl ?_
  refine ar_ldA rfl rfl ?_
  refine ar_get rfl rfl rfl ?_
  refine ar_ldI rfl rfl ?_
  refine ar_inl (mc := 0) (ms := 0) rfl (rcv_of rfl) (Nat.le_of_ble_eq_true rfl) (Nat.le_of_ble_eq_true rfl) (by omega) (by omega) ?_
  refine ac_ink [some (.inr (.inr (some 57))), some (.inl _)] mt_31 (Nat.le_of_ble_eq_true rfl) rfl ?_
  refine ar_ldI rfl rfl ?_
  refine ar_push rfl ?_
  refine ar_push rfl ?_
  refine ar_callv rfl rfl (Nat.le_of_ble_eq_true rfl) (Nat.le_of_ble_eq_true rfl) rfl (sp_within _ _ _ _ _) ?_
  refine ar_ret rfl (bi_ret _) ?_
  show aRun _ (aCall Mt _) _ 8 (_, [_], _, _, _)
  refine ar_eqB rfl (fun c1 => ?_) (fun c1 => ?_)
  · refine ar_push rfl ?_
    refine ar_ret rfl rfl ?_
    refine ⟨_, 0, 0, _, rfl, Nat.zero_le _, Nat.zero_le _, rfl, ?_⟩
    refine rgen rFr_F (fun g hr => ?_)
    refine ac_ink [some (.inr (.inr (some 69))), some (.inl _), some (.inl _), some (.inl _), some (.inl _), some (.inl _), none] mt_302 (Nat.le_of_ble_eq_true rfl) rfl ?_
    refine ar_ldI rfl rfl ?_
    refine ar_inl (mc := 0) (ms := 0) rfl rfl (Nat.le_of_ble_eq_true rfl) (Nat.le_of_ble_eq_true rfl) (by omega) (by omega) ?_
    refine ac_ink [some (.inl _)] mt_296 (Nat.le_of_ble_eq_true rfl) rfl ?_
    refine ar_ldI rfl rfl ?_
    refine ar_push rfl ?_
    refine ar_push rfl ?_
    refine ar_callv rfl rfl (Nat.le_of_ble_eq_true rfl) (Nat.le_of_ble_eq_true rfl) rfl (sp_in _ _ _ _ _) ?_
    refine ar_ret rfl (bi_ret _) ?_
    show aRun _ (aCall Mt _) _ 4 (_, [_], _, _, _)
    refine ar_if1t rfl (bi_e0t c1) ?_
    refine ar_push rfl ?_
    refine ar_ret rfl rfl ?_
    exact ⟨rfl, hJ _ _ _⟩
  · refine ar_ldA rfl rfl ?_
    refine ar_get rfl rfl rfl ?_
    refine ar_ldI rfl rfl ?_
    refine ar_inl (mc := 0) (ms := 0) rfl (rcv_of rfl) (Nat.le_of_ble_eq_true rfl) (Nat.le_of_ble_eq_true rfl) (by omega) (by omega) ?_
    refine ac_ink [some (.inr (.inr (some 57))), some (.inl _)] mt_31 (Nat.le_of_ble_eq_true rfl) rfl ?_
    refine ar_ldI rfl rfl ?_
    refine ar_push rfl ?_
    refine ar_push rfl ?_
    refine ar_callv rfl rfl (Nat.le_of_ble_eq_true rfl) (Nat.le_of_ble_eq_true rfl) rfl (sp_within _ _ _ _ _) ?_
    refine ar_ret rfl (bi_ret _) ?_
    show aRun _ (aCall Mt _) _ 19 (_, [_], _, _, _)
    refine ar_neB rfl (fun c2 => ?_) (fun c2 => ?_)
    · refine ar_ldA rfl rfl ?_
      refine ar_get rfl rfl rfl ?_
      refine ar_ldI rfl rfl ?_
      refine ar_inl (mc := 0) (ms := 0) rfl (rcv_of rfl) (Nat.le_of_ble_eq_true rfl) (Nat.le_of_ble_eq_true rfl) (by omega) (by omega) ?_
      refine ac_ink [some (.inr (.inr (some 57))), some (.inl _)] mt_32 (Nat.le_of_ble_eq_true rfl) rfl ?_
      refine ar_ldA rfl rfl ?_
      refine ar_ldI rfl rfl ?_
      refine ar_inl (mc := 0) (ms := 0) rfl (rcv_of rfl) (Nat.le_of_ble_eq_true rfl) (Nat.le_of_ble_eq_true rfl) (by omega) (by omega) ?_
      refine ac_ink [some (.inr (.inr (some 57))), some (.inl _)] mt_31 (Nat.le_of_ble_eq_true rfl) rfl ?_
      refine ar_ldI rfl rfl ?_
      refine ar_push rfl ?_
      refine ar_push rfl ?_
      refine ar_callv rfl rfl (Nat.le_of_ble_eq_true rfl) (Nat.le_of_ble_eq_true rfl) rfl (sp_within _ _ _ _ _) ?_
      refine ar_ret rfl (bi_ret _) ?_
      show aRun _ (aCall Mt _) _ 5 (_, [_], _, _, _)
      refine ar_if1f rfl (bi_e0f c1) ?_
      refine ar_ldA rfl rfl ?_
      refine ar_get rfl rfl rfl ?_
      refine ar_ldI rfl rfl ?_
      refine ar_ald rfl rfl (wi_ix (m := 6) c1 (by decide)).1 (rep_get (wi_ix (m := 6) c1 (by decide)).2) ?_
      refine ar_if1f rfl (by decide) ?_
      refine ar_push rfl ?_
      refine ar_go rfl ?_
      refine ar_ret rfl rfl ?_
      show aRun _ (aCall Mt _) _ 32 (_, [_], _, _, _)
      refine ar_if1t rfl (by decide) ?_
      refine ar_push rfl ?_
      refine ar_ret rfl rfl ?_
      refine ⟨_, 0, 0, _, rfl, Nat.zero_le _, Nat.zero_le _, rfl, ?_⟩
      refine rgen rFr_F (fun g hr => ?_)
      refine ac_ink [some (.inr (.inr (some 69))), some (.inl _), some (.inl _), some (.inl _), some (.inl _), some (.inl _), none] mt_302 (Nat.le_of_ble_eq_true rfl) rfl ?_
      refine ar_ldI rfl rfl ?_
      refine ar_inl (mc := 0) (ms := 0) rfl rfl (Nat.le_of_ble_eq_true rfl) (Nat.le_of_ble_eq_true rfl) (by omega) (by omega) ?_
      refine ac_ink [some (.inl _)] mt_296 (Nat.le_of_ble_eq_true rfl) rfl ?_
      refine ar_ldI rfl rfl ?_
      refine ar_push rfl ?_
      refine ar_push rfl ?_
      refine ar_callv rfl rfl (Nat.le_of_ble_eq_true rfl) (Nat.le_of_ble_eq_true rfl) rfl (sp_in _ _ _ _ _) ?_
      refine ar_ret rfl (bi_ret _) ?_
      show aRun _ (aCall Mt _) _ 4 (_, [_], _, _, _)
      refine ar_if1f rfl (bi_e0f c1) ?_
      refine ar_ldI rfl rfl ?_
      refine ar_inl (mc := 0) (ms := 0) rfl rfl (Nat.le_of_ble_eq_true rfl) (Nat.le_of_ble_eq_true rfl) (by omega) (by omega) ?_
      refine ac_ink [some (.inl _)] mt_296 (Nat.le_of_ble_eq_true rfl) rfl ?_
      refine ar_ldI rfl rfl ?_
      refine ar_push rfl ?_
      refine ar_push rfl ?_
      refine ar_callv rfl rfl (Nat.le_of_ble_eq_true rfl) (Nat.le_of_ble_eq_true rfl) rfl (sp_in _ _ _ _ _) ?_
      refine ar_ret rfl (bi_ret _) ?_
      show aRun _ (aCall Mt _) _ 11 (_, [_], _, _, _)
      refine ar_if1t rfl (bi_n0t c2) ?_
      refine ar_ldA rfl rfl ?_
      refine ar_get rfl (hr.at 69 (by decide) (by decide) rfl) rfl ?_
      refine ar_ldI rfl rfl ?_
      refine ar_ald rfl (hr.at 110 (by decide) (by decide) rfl) (wi_ix (m := 6) c1 (by decide)).1 (rep_get (wi_ix (m := 6) c1 (by decide)).2) ?_
      refine ar_push rfl ?_
      refine ar_if2t rfl (by decide) ?_
      refine ar_push rfl ?_
      refine ar_ret rfl rfl ?_
      exact ⟨rfl, hJ _ _ _⟩
    · refine ar_push rfl ?_
      refine ar_ret rfl rfl ?_
      refine ⟨_, 0, 0, _, rfl, Nat.zero_le _, Nat.zero_le _, rfl, ?_⟩
      refine rgen rFr_F (fun g hr => ?_)
      refine ac_ink [some (.inr (.inr (some 69))), some (.inl _), some (.inl _), some (.inl _), some (.inl _), some (.inl _), none] mt_302 (Nat.le_of_ble_eq_true rfl) rfl ?_
      refine ar_ldI rfl rfl ?_
      refine ar_inl (mc := 0) (ms := 0) rfl rfl (Nat.le_of_ble_eq_true rfl) (Nat.le_of_ble_eq_true rfl) (by omega) (by omega) ?_
      refine ac_ink [some (.inl _)] mt_296 (Nat.le_of_ble_eq_true rfl) rfl ?_
      refine ar_ldI rfl rfl ?_
      refine ar_push rfl ?_
      refine ar_push rfl ?_
      refine ar_callv rfl rfl (Nat.le_of_ble_eq_true rfl) (Nat.le_of_ble_eq_true rfl) rfl (sp_in _ _ _ _ _) ?_
      refine ar_ret rfl (bi_ret _) ?_
      show aRun _ (aCall Mt _) _ 4 (_, [_], _, _, _)
      refine ar_if1f rfl (bi_e0f c1) ?_
      refine ar_ldI rfl rfl ?_
      refine ar_inl (mc := 0) (ms := 0) rfl rfl (Nat.le_of_ble_eq_true rfl) (Nat.le_of_ble_eq_true rfl) (by omega) (by omega) ?_
      refine ac_ink [some (.inl _)] mt_296 (Nat.le_of_ble_eq_true rfl) rfl ?_
      refine ar_ldI rfl rfl ?_
      refine ar_push rfl ?_
      refine ar_push rfl ?_
      refine ar_callv rfl rfl (Nat.le_of_ble_eq_true rfl) (Nat.le_of_ble_eq_true rfl) rfl (sp_in _ _ _ _ _) ?_
      refine ar_ret rfl (bi_ret _) ?_
      show aRun _ (aCall Mt _) _ 11 (_, [_], _, _, _)
      refine ar_if1f rfl (bi_n0f c2) ?_
      refine ar_push rfl ?_
      refine ar_ret rfl rfl ?_
      exact ⟨rfl, hJ _ _ _⟩

set_option maxRecDepth 20000 in
set_option maxHeartbeats 4000000 in
theorem p1_40 (x1 : Int32) (x2 : Int32) (J : aH → Nat → Nat → Prop) (hJ : ∀ h a b, J h a b) (kc ks : Nat) (hkc : 1000 ≤ kc) (hks : 100000 ≤ ks) : aPairI 0 69 164 303 [.inl x1, .inl x2] J hF kc ks := by
  refine ⟨0, 0, _, by omega, by omega, rfl, ?_⟩
  refine ac_ink [some (.inr (.inr (some 0))), some (.inl _), some (.inl _), none] mt_164 (Nat.le_of_ble_eq_true rfl) rfl ?_
  refine ar_ldA rfl rfl ?_
  refine ar_get rfl rfl rfl ?_
  refine ar_ldI rfl rfl ?_
  refine ar_inl (mc := 0) (ms := 0) rfl (rcv_of rfl) (Nat.le_of_ble_eq_true rfl) (Nat.le_of_ble_eq_true rfl) (by omega) (by omega) ?_
  refine ac_ink [some (.inr (.inr (some 57))), some (.inl _)] mt_31 (Nat.le_of_ble_eq_true rfl) rfl ?_
  refine ar_ldI rfl rfl ?_
  refine ar_push rfl ?_
  refine ar_push rfl ?_
  refine ar_callv rfl rfl (Nat.le_of_ble_eq_true rfl) (Nat.le_of_ble_eq_true rfl) rfl (sp_within _ _ _ _ _) ?_
  refine ar_ret rfl (bi_ret _) ?_
  show aRun _ (aCall Mt _) _ 8 (_, [_], _, _, _)
  refine ar_eqB rfl (fun c1 => ?_) (fun c1 => ?_)
  · refine ar_push rfl ?_
    refine ar_ret rfl rfl ?_
    refine ⟨_, 0, 0, _, rfl, Nat.zero_le _, Nat.zero_le _, rfl, ?_⟩
    refine rgen rFr_F (fun g hr => ?_)
    refine ac_ink [some (.inr (.inr (some 69))), some (.inl _), some (.inl _)] mt_303 (Nat.le_of_ble_eq_true rfl) rfl ?_
    refine ar_ldI rfl rfl ?_
    refine ar_inl (mc := 0) (ms := 0) rfl rfl (Nat.le_of_ble_eq_true rfl) (Nat.le_of_ble_eq_true rfl) (by omega) (by omega) ?_
    refine ac_ink [some (.inl _)] mt_296 (Nat.le_of_ble_eq_true rfl) rfl ?_
    refine ar_ldI rfl rfl ?_
    refine ar_push rfl ?_
    refine ar_push rfl ?_
    refine ar_callv rfl rfl (Nat.le_of_ble_eq_true rfl) (Nat.le_of_ble_eq_true rfl) rfl (sp_in _ _ _ _ _) ?_
    refine ar_ret rfl (bi_ret _) ?_
    show aRun _ (aCall Mt _) _ 4 (_, [_], _, _, _)
    refine ar_if1t rfl (bi_e0t c1) ?_
    refine ar_push rfl ?_
    refine ar_ret rfl rfl ?_
    exact ⟨rfl, hJ _ _ _⟩
  · refine ar_ldI rfl rfl ?_
    refine ar_push rfl ?_
    refine ar_push rfl ?_
    refine ar_callv rfl rfl (Nat.le_of_ble_eq_true rfl) (Nat.le_of_ble_eq_true rfl) rfl (sp_within _ _ _ _ _) ?_
    refine ar_neB rfl (fun c2 => ?_) (fun c2 => ?_)
    · refine ar_ldA rfl rfl ?_
      refine ar_get rfl rfl rfl ?_
      refine ar_ldI rfl rfl ?_
      refine ar_inl (mc := 0) (ms := 0) rfl (rcv_of rfl) (Nat.le_of_ble_eq_true rfl) (Nat.le_of_ble_eq_true rfl) (by omega) (by omega) ?_
      refine ac_ink [some (.inr (.inr (some 57))), some (.inl _)] mt_32 (Nat.le_of_ble_eq_true rfl) rfl ?_
      refine ar_ldA rfl rfl ?_
      refine ar_ldI rfl rfl ?_
      refine ar_inl (mc := 0) (ms := 0) rfl (rcv_of rfl) (Nat.le_of_ble_eq_true rfl) (Nat.le_of_ble_eq_true rfl) (by omega) (by omega) ?_
      refine ac_ink [some (.inr (.inr (some 57))), some (.inl _)] mt_31 (Nat.le_of_ble_eq_true rfl) rfl ?_
      refine ar_ldI rfl rfl ?_
      refine ar_push rfl ?_
      refine ar_push rfl ?_
      refine ar_callv rfl rfl (Nat.le_of_ble_eq_true rfl) (Nat.le_of_ble_eq_true rfl) rfl (sp_within _ _ _ _ _) ?_
      refine ar_ret rfl (bi_ret _) ?_
      show aRun _ (aCall Mt _) _ 5 (_, [_], _, _, _)
      refine ar_if1f rfl (bi_e0f c1) ?_
      refine ar_ldA rfl rfl ?_
      refine ar_get rfl rfl rfl ?_
      refine ar_ldI rfl rfl ?_
      refine ar_ald rfl rfl (wi_ix (m := 6) c1 (by decide)).1 (rep_get (wi_ix (m := 6) c1 (by decide)).2) ?_
      refine ar_if1f rfl (by decide) ?_
      refine ar_push rfl ?_
      refine ar_go rfl ?_
      refine ar_ret rfl rfl ?_
      show aRun _ (aCall Mt _) _ 31 (_, [_], _, _, _)
      refine ar_if1f rfl (by decide) ?_
      refine ar_push rfl ?_
      refine ar_ret rfl rfl ?_
      refine ⟨_, 0, 0, _, rfl, Nat.zero_le _, Nat.zero_le _, rfl, ?_⟩
      refine rgen rFr_F (fun g hr => ?_)
      refine ac_ink [some (.inr (.inr (some 69))), some (.inl _), some (.inl _)] mt_303 (Nat.le_of_ble_eq_true rfl) rfl ?_
      refine ar_ldI rfl rfl ?_
      refine ar_inl (mc := 0) (ms := 0) rfl rfl (Nat.le_of_ble_eq_true rfl) (Nat.le_of_ble_eq_true rfl) (by omega) (by omega) ?_
      refine ac_ink [some (.inl _)] mt_296 (Nat.le_of_ble_eq_true rfl) rfl ?_
      refine ar_ldI rfl rfl ?_
      refine ar_push rfl ?_
      refine ar_push rfl ?_
      refine ar_callv rfl rfl (Nat.le_of_ble_eq_true rfl) (Nat.le_of_ble_eq_true rfl) rfl (sp_in _ _ _ _ _) ?_
      refine ar_ret rfl (bi_ret _) ?_
      show aRun _ (aCall Mt _) _ 4 (_, [_], _, _, _)
      refine ar_if1f rfl (bi_e0f c1) ?_
      refine ar_ldI rfl rfl ?_
      refine ar_push rfl ?_
      refine ar_push rfl ?_
      refine ar_callv rfl rfl (Nat.le_of_ble_eq_true rfl) (Nat.le_of_ble_eq_true rfl) rfl (sp_in _ _ _ _ _) ?_
      refine ar_if1t rfl (bi_n0t c2) ?_
      refine ar_ldA rfl rfl ?_
      refine ar_get rfl (hr.at 69 (by decide) (by decide) rfl) rfl ?_
      refine ar_ldI rfl rfl ?_
      refine ar_ald rfl (hr.at 110 (by decide) (by decide) rfl) (wi_ix (m := 6) c1 (by decide)).1 (rep_get (wi_ix (m := 6) c1 (by decide)).2) ?_
      refine ar_push rfl ?_
      refine ar_if2f rfl (by decide) ?_
      refine ar_push rfl ?_
      refine ar_ret rfl rfl ?_
      exact ⟨rfl, hJ _ _ _⟩
    · refine ar_push rfl ?_
      refine ar_ret rfl rfl ?_
      refine ⟨_, 0, 0, _, rfl, Nat.zero_le _, Nat.zero_le _, rfl, ?_⟩
      refine rgen rFr_F (fun g hr => ?_)
      refine ac_ink [some (.inr (.inr (some 69))), some (.inl _), some (.inl _)] mt_303 (Nat.le_of_ble_eq_true rfl) rfl ?_
      refine ar_ldI rfl rfl ?_
      refine ar_inl (mc := 0) (ms := 0) rfl rfl (Nat.le_of_ble_eq_true rfl) (Nat.le_of_ble_eq_true rfl) (by omega) (by omega) ?_
      refine ac_ink [some (.inl _)] mt_296 (Nat.le_of_ble_eq_true rfl) rfl ?_
      refine ar_ldI rfl rfl ?_
      refine ar_push rfl ?_
      refine ar_push rfl ?_
      refine ar_callv rfl rfl (Nat.le_of_ble_eq_true rfl) (Nat.le_of_ble_eq_true rfl) rfl (sp_in _ _ _ _ _) ?_
      refine ar_ret rfl (bi_ret _) ?_
      show aRun _ (aCall Mt _) _ 4 (_, [_], _, _, _)
      refine ar_if1f rfl (bi_e0f c1) ?_
      refine ar_ldI rfl rfl ?_
      refine ar_push rfl ?_
      refine ar_push rfl ?_
      refine ar_callv rfl rfl (Nat.le_of_ble_eq_true rfl) (Nat.le_of_ble_eq_true rfl) rfl (sp_in _ _ _ _ _) ?_
      refine ar_if1f rfl (bi_n0f c2) ?_
      refine ar_push rfl ?_
      refine ar_ret rfl rfl ?_
      exact ⟨rfl, hJ _ _ _⟩
end P1C
