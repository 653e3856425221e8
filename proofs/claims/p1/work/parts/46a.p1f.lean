section P1C
set_option maxRecDepth 20000 in
set_option maxHeartbeats 4000000 in
theorem p1_21 (x1 : Int32) (J : aH → Nat → Nat → Prop) (hJ : ∀ h a b, J h a b) (kc ks : Nat) (hkc : 1000 ≤ kc) (hks : 100000 ≤ ks) : aPairI 0 69 145 264 [.inl x1] J hF kc ks := by
  refine ⟨0, 0, _, by omega, by omega, rfl, ?_⟩
  refine ac_ink [some (.inr (.inr (some 0))), some (.inl _), none] mt_145 (Nat.le_of_ble_eq_true rfl) rfl ?_
  refine ar_ldI rfl rfl ?_
  refine ar_push rfl ?_
  refine ar_push rfl ?_
  refine ar_ldA rfl rfl ?_
  refine ar_get rfl rfl rfl ?_
  refine ar_get rfl rfl rfl ?_
  refine ar_bink (z := 1) rfl (by decide) ?_
  refine ar_push rfl ?_
  refine ar_bink (z := 0) rfl (by decide) ?_
  refine ar_callv rfl rfl (Nat.le_of_ble_eq_true rfl) (Nat.le_of_ble_eq_true rfl) rfl (sp_within _ _ _ _ _) ?_
  refine ar_neB rfl (fun c1 => ?_) (fun c1 => ?_)
  · have wc1 := wi_to c1
    have lc1 : ((0) : Int32).toInt = 0 := by decide
    rcases (show x1.toInt = 0 by omega) with nc1
    · cases en_of nc1 (show ((0) : Int32).toInt = 0 by decide)
      refine ar_push rfl ?_
      refine ar_svIk [some (.inr (.inr (some 0))), some (.inl 0), some (.inl 0)] rfl rfl ?_
      refine ar_ldI rfl rfl ?_
      refine ar_ldA rfl rfl ?_
      refine ar_get rfl rfl rfl ?_
      refine ar_get rfl rfl rfl ?_
      refine ar_if2t rfl (by decide) ?_
      refine ar_ldA rfl rfl ?_
      refine ar_get rfl rfl rfl ?_
      refine ar_ldI rfl rfl ?_
      refine ar_inl (mc := 0) (ms := 0) rfl (rcv_of rfl) (Nat.le_of_ble_eq_true rfl) (Nat.le_of_ble_eq_true rfl) (by omega) (by omega) ?_
      refine ac_ink [some (.inr (.inr (some 41))), some (.inl 0), none, none, none, none, none, none, none, none] mt_78 (Nat.le_of_ble_eq_true rfl) rfl ?_
      refine ar_push rfl ?_
      refine ar_ldI rfl rfl ?_
      refine ar_inl (mc := 0) (ms := 0) rfl rfl (Nat.le_of_ble_eq_true rfl) (Nat.le_of_ble_eq_true rfl) (by omega) (by omega) ?_
      refine ac_ink [some (.inl 0)] mt_304 (Nat.le_of_ble_eq_true rfl) rfl ?_
      refine ar_ldI rfl rfl ?_
      refine ar_ldI rfl rfl ?_
      refine ar_push rfl ?_
      refine ar_bink (z := 0) rfl (by decide) ?_
      refine ar_push rfl ?_
      refine ar_bink (z := 0) rfl (by decide) ?_
      refine ar_bink (z := 0) rfl (by decide) ?_
      refine ar_svIk [some (.inl 0)] rfl rfl ?_
      refine ar_ldI rfl rfl ?_
      refine ar_push rfl ?_
      refine ar_bink (z := 0) rfl (by decide) ?_
      refine ar_ldI rfl rfl ?_
      refine ar_push rfl ?_
      refine ar_bink (z := 0) rfl (by decide) ?_
      refine ar_push rfl ?_
      refine ar_bink (z := 0) rfl (by decide) ?_
      refine ar_bink (z := 0) rfl (by decide) ?_
      refine ar_svIk [some (.inl 0)] rfl rfl ?_
      refine ar_ldI rfl rfl ?_
      refine ar_ldI rfl rfl ?_
      refine ar_push rfl ?_
      refine ar_bink (z := 0) rfl (by decide) ?_
      refine ar_bink (z := 0) rfl (by decide) ?_
      refine ar_push rfl ?_
      refine ar_bink (z := 0) rfl (by decide) ?_
      refine ar_svIk [some (.inl 0)] rfl rfl ?_
      refine ar_ldI rfl rfl ?_
      refine ar_ldI rfl rfl ?_
      refine ar_push rfl ?_
      refine ar_bink (z := 0) rfl (by decide) ?_
      refine ar_bink (z := 0) rfl (by decide) ?_
      refine ar_svIk [some (.inl 0)] rfl rfl ?_
      refine ar_ldI rfl rfl ?_
      refine ar_ldI rfl rfl ?_
      refine ar_push rfl ?_
      refine ar_bink (z := 0) rfl (by decide) ?_
      refine ar_bink (z := 0) rfl (by decide) ?_
      refine ar_svIk [some (.inl 0)] rfl rfl ?_
      refine ar_ldI rfl rfl ?_
      refine ar_push rfl ?_
      refine ar_bink (z := 0) rfl (by decide) ?_
      refine ar_ret rfl rfl ?_
      show aRun _ (aCall Mt _) _ 6 (_, [_, _], _, _, _)
      refine ar_bink (z := 0) rfl (by decide) ?_
      refine ar_svIk [some (.inr (.inr (some 41))), some (.inl 0), some (.inl 0), none, none, none, none, none, none, none] rfl rfl ?_
      refine ar_push rfl ?_
      refine ar_svJk [some (.inr (.inr (some 41))), some (.inl 0), some (.inl 0), some (.inr (.inl _)), none, none, none, none, none, none] rfl rfl ?_
      refine ar_push rfl ?_
      refine ar_svJk [some (.inr (.inr (some 41))), some (.inl 0), some (.inl 0), some (.inr (.inl _)), none, some (.inr (.inl _)), none, none, none, none] rfl rfl ?_
      refine ar_push rfl ?_
      refine ar_svJk [some (.inr (.inr (some 41))), some (.inl 0), some (.inl 0), some (.inr (.inl _)), none, some (.inr (.inl _)), none, some (.inr (.inl _)), none, none] rfl rfl ?_
      refine ar_push rfl ?_
      refine ar_svIk [some (.inr (.inr (some 41))), some (.inl 0), some (.inl 0), some (.inr (.inl _)), none, some (.inr (.inl _)), none, some (.inr (.inl _)), none, some (.inl 0)] rfl rfl ?_
      refine ar_ldI rfl rfl ?_
      refine ar_push rfl ?_
      refine ar_if2f rfl (by decide) ?_
      refine ar_ldI rfl rfl ?_
      refine ar_ldI rfl rfl ?_
      refine ar_bink (z := 0) rfl (by decide) ?_
      refine ar_push rfl ?_
      refine ar_bink (z := 0) rfl (by decide) ?_
      refine ar_if1f rfl (by decide) ?_
      refine ar_go rfl ?_
      refine ar_incl (z := 1) [some (.inr (.inr (some 41))), some (.inl 0), some (.inl 0), some (.inr (.inl _)), none, some (.inr (.inl _)), none, some (.inr (.inl _)), none, some (.inl 1)] rfl rfl (by decide) rfl ?_
      refine ar_go rfl ?_
      refine ar_ldI rfl rfl ?_
      refine ar_push rfl ?_
      refine ar_if2f rfl (by decide) ?_
      refine ar_ldI rfl rfl ?_
      refine ar_ldI rfl rfl ?_
      refine ar_bink (z := 0) rfl (by decide) ?_
      refine ar_push rfl ?_
      refine ar_bink (z := 0) rfl (by decide) ?_
      refine ar_if1f rfl (by decide) ?_
      refine ar_go rfl ?_
      refine ar_incl (z := 2) [some (.inr (.inr (some 41))), some (.inl 0), some (.inl 0), some (.inr (.inl _)), none, some (.inr (.inl _)), none, some (.inr (.inl _)), none, some (.inl 2)] rfl rfl (by decide) rfl ?_
      refine ar_go rfl ?_
      refine ar_ldI rfl rfl ?_
      refine ar_push rfl ?_
      refine ar_if2f rfl (by decide) ?_
      refine ar_ldI rfl rfl ?_
      refine ar_ldI rfl rfl ?_
      refine ar_bink (z := 0) rfl (by decide) ?_
      refine ar_push rfl ?_
      refine ar_bink (z := 0) rfl (by decide) ?_
      refine ar_if1f rfl (by decide) ?_
      refine ar_go rfl ?_
      refine ar_incl (z := 3) [some (.inr (.inr (some 41))), some (.inl 0), some (.inl 0), some (.inr (.inl _)), none, some (.inr (.inl _)), none, some (.inr (.inl _)), none, some (.inl 3)] rfl rfl (by decide) rfl ?_
      refine ar_go rfl ?_
      refine ar_ldI rfl rfl ?_
      refine ar_push rfl ?_
      refine ar_if2f rfl (by decide) ?_
      refine ar_ldI rfl rfl ?_
      refine ar_ldI rfl rfl ?_
      refine ar_bink (z := 0) rfl (by decide) ?_
      refine ar_push rfl ?_
      refine ar_bink (z := 0) rfl (by decide) ?_
      refine ar_if1f rfl (by decide) ?_
      refine ar_go rfl ?_
      refine ar_incl (z := 4) [some (.inr (.inr (some 41))), some (.inl 0), some (.inl 0), some (.inr (.inl _)), none, some (.inr (.inl _)), none, some (.inr (.inl _)), none, some (.inl 4)] rfl rfl (by decide) rfl ?_
      refine ar_go rfl ?_
      refine ar_ldI rfl rfl ?_
      refine ar_push rfl ?_
      refine ar_if2f rfl (by decide) ?_
      refine ar_ldI rfl rfl ?_
      refine ar_ldI rfl rfl ?_
      refine ar_bink (z := 0) rfl (by decide) ?_
      refine ar_push rfl ?_
      refine ar_bink (z := 0) rfl (by decide) ?_
      refine ar_if1f rfl (by decide) ?_
      refine ar_go rfl ?_
      refine ar_incl (z := 5) [some (.inr (.inr (some 41))), some (.inl 0), some (.inl 0), some (.inr (.inl _)), none, some (.inr (.inl _)), none, some (.inr (.inl _)), none, some (.inl 5)] rfl rfl (by decide) rfl ?_
      refine ar_go rfl ?_
      refine ar_ldI rfl rfl ?_
      refine ar_push rfl ?_
      refine ar_if2f rfl (by decide) ?_
      refine ar_ldI rfl rfl ?_
      refine ar_ldI rfl rfl ?_
      refine ar_bink (z := 0) rfl (by decide) ?_
      refine ar_push rfl ?_
      refine ar_bink (z := 0) rfl (by decide) ?_
      refine ar_if1f rfl (by decide) ?_
      refine ar_go rfl ?_
      refine ar_incl (z := 6) [some (.inr (.inr (some 41))), some (.inl 0), some (.inl 0), some (.inr (.inl _)), none, some (.inr (.inl _)), none, some (.inr (.inl _)), none, some (.inl 6)] rfl rfl (by decide) rfl ?_
      refine ar_go rfl ?_
      refine ar_ldI rfl rfl ?_
      refine ar_push rfl ?_
      refine ar_if2f rfl (by decide) ?_
      refine ar_ldI rfl rfl ?_
      refine ar_ldI rfl rfl ?_
      refine ar_bink (z := 0) rfl (by decide) ?_
      refine ar_push rfl ?_
      refine ar_bink (z := 0) rfl (by decide) ?_
      refine ar_if1f rfl (by decide) ?_
      refine ar_go rfl ?_
      refine ar_incl (z := 7) [some (.inr (.inr (some 41))), some (.inl 0), some (.inl 0), some (.inr (.inl _)), none, some (.inr (.inl _)), none, some (.inr (.inl _)), none, some (.inl 7)] rfl rfl (by decide) rfl ?_
      refine ar_go rfl ?_
      refine ar_ldI rfl rfl ?_
      refine ar_push rfl ?_
      refine ar_if2f rfl (by decide) ?_
      refine ar_ldI rfl rfl ?_
      refine ar_ldI rfl rfl ?_
      refine ar_bink (z := 0) rfl (by decide) ?_
      refine ar_push rfl ?_
      refine ar_bink (z := 0) rfl (by decide) ?_
      refine ar_if1f rfl (by decide) ?_
      refine ar_go rfl ?_
      refine ar_incl (z := 8) [some (.inr (.inr (some 41))), some (.inl 0), some (.inl 0), some (.inr (.inl _)), none, some (.inr (.inl _)), none, some (.inr (.inl _)), none, some (.inl 8)] rfl rfl (by decide) rfl ?_
      refine ar_go rfl ?_
      refine ar_ldI rfl rfl ?_
      refine ar_push rfl ?_
      refine ar_if2f rfl (by decide) ?_
      refine ar_ldI rfl rfl ?_
      refine ar_ldI rfl rfl ?_
      refine ar_bink (z := 0) rfl (by decide) ?_
      refine ar_push rfl ?_
      refine ar_bink (z := 0) rfl (by decide) ?_
      refine ar_if1f rfl (by decide) ?_
      refine ar_go rfl ?_
      refine ar_incl (z := 9) [some (.inr (.inr (some 41))), some (.inl 0), some (.inl 0), some (.inr (.inl _)), none, some (.inr (.inl _)), none, some (.inr (.inl _)), none, some (.inl 9)] rfl rfl (by decide) rfl ?_
      refine ar_go rfl ?_
      refine ar_ldI rfl rfl ?_
      refine ar_push rfl ?_
      refine ar_if2f rfl (by decide) ?_
      refine ar_ldI rfl rfl ?_
      refine ar_ldI rfl rfl ?_
      refine ar_bink (z := 0) rfl (by decide) ?_
      refine ar_push rfl ?_
      refine ar_bink (z := 0) rfl (by decide) ?_
      refine ar_if1f rfl (by decide) ?_
      refine ar_go rfl ?_
      refine ar_incl (z := 10) [some (.inr (.inr (some 41))), some (.inl 0), some (.inl 0), some (.inr (.inl _)), none, some (.inr (.inl _)), none, some (.inr (.inl _)), none, some (.inl 10)] rfl rfl (by decide) rfl ?_
      refine ar_go rfl ?_
      refine ar_ldI rfl rfl ?_
      refine ar_push rfl ?_
      refine ar_if2f rfl (by decide) ?_
      refine ar_ldI rfl rfl ?_
      refine ar_ldI rfl rfl ?_
      refine ar_bink (z := 0) rfl (by decide) ?_
      refine ar_push rfl ?_
      refine ar_bink (z := 0) rfl (by decide) ?_
      refine ar_if1f rfl (by decide) ?_
      refine ar_go rfl ?_
      refine ar_incl (z := 11) [some (.inr (.inr (some 41))), some (.inl 0), some (.inl 0), some (.inr (.inl _)), none, some (.inr (.inl _)), none, some (.inr (.inl _)), none, some (.inl 11)] rfl rfl (by decide) rfl ?_
      refine ar_go rfl ?_
      refine ar_ldI rfl rfl ?_
      refine ar_push rfl ?_
      refine ar_if2f rfl (by decide) ?_
      refine ar_ldI rfl rfl ?_
      refine ar_ldI rfl rfl ?_
      refine ar_bink (z := 0) rfl (by decide) ?_
      refine ar_push rfl ?_
      refine ar_bink (z := 0) rfl (by decide) ?_
      refine ar_if1f rfl (by decide) ?_
      refine ar_go rfl ?_
      refine ar_incl (z := 12) [some (.inr (.inr (some 41))), some (.inl 0), some (.inl 0), some (.inr (.inl _)), none, some (.inr (.inl _)), none, some (.inr (.inl _)), none, some (.inl 12)] rfl rfl (by decide) rfl ?_
      refine ar_go rfl ?_
      refine ar_ldI rfl rfl ?_
      refine ar_push rfl ?_
      refine ar_if2t rfl (by decide) ?_
      refine ar_ldI rfl rfl ?_
      refine ar_push rfl ?_
      refine ar_ldJ rfl rfl ?_
      refine ar_inl (mc := 0) (ms := 0) rfl rfl (Nat.le_of_ble_eq_true rfl) (Nat.le_of_ble_eq_true rfl) (by omega) (by omega) ?_
      refine ac_ink [some (.inr (.inl _)), none] mt_305 (Nat.le_of_ble_eq_true rfl) rfl ?_
      refine ar_ldJ rfl rfl ?_
      refine ar_ldJ rfl rfl ?_
      refine ar_push rfl ?_
      refine ar_shJk (z := 0) rfl (by decide) ?_
      refine ar_push rfl ?_
      refine ar_binJk (z := 0) rfl (by decide) ?_
      refine ar_binJk (z := 0) rfl (by decide) ?_
      refine ar_svJk [some (.inr (.inl _)), none] rfl rfl ?_
      refine ar_ldJ rfl rfl ?_
      refine ar_push rfl ?_
      refine ar_binJk (z := 0) rfl (by decide) ?_
      refine ar_ldJ rfl rfl ?_
      refine ar_push rfl ?_
      refine ar_shJk (z := 0) rfl (by decide) ?_
      refine ar_push rfl ?_
      refine ar_binJk (z := 0) rfl (by decide) ?_
      refine ar_binJk (z := 0) rfl (by decide) ?_
      refine ar_svJk [some (.inr (.inl _)), none] rfl rfl ?_
      refine ar_ldJ rfl rfl ?_
      refine ar_ldJ rfl rfl ?_
      refine ar_push rfl ?_
      refine ar_shJk (z := 0) rfl (by decide) ?_
      refine ar_binJk (z := 0) rfl (by decide) ?_
      refine ar_push rfl ?_
      refine ar_binJk (z := 0) rfl (by decide) ?_
      refine ar_svJk [some (.inr (.inl _)), none] rfl rfl ?_
      refine ar_ldJ rfl rfl ?_
      refine ar_ldJ rfl rfl ?_
      refine ar_push rfl ?_
      refine ar_shJk (z := 0) rfl (by decide) ?_
      refine ar_binJk (z := 0) rfl (by decide) ?_
      refine ar_svJk [some (.inr (.inl _)), none] rfl rfl ?_
      refine ar_ldJ rfl rfl ?_
      refine ar_ldJ rfl rfl ?_
      refine ar_push rfl ?_
      refine ar_shJk (z := 0) rfl (by decide) ?_
      refine ar_binJk (z := 0) rfl (by decide) ?_
      refine ar_svJk [some (.inr (.inl _)), none] rfl rfl ?_
      refine ar_ldJ rfl rfl ?_
      refine ar_ldJ rfl rfl ?_
      refine ar_push rfl ?_
      refine ar_shJk (z := 0) rfl (by decide) ?_
      refine ar_binJk (z := 0) rfl (by decide) ?_
      refine ar_svJk [some (.inr (.inl _)), none] rfl rfl ?_
      refine ar_ldJ rfl rfl ?_
      refine ar_l2ik (z := 0) rfl (by decide) ?_
      refine ar_push rfl ?_
      refine ar_bink (z := 0) rfl (by decide) ?_
      refine ar_ret rfl rfl ?_
      show aRun _ (aCall Mt _) _ 104 (_, [_, _, _], _, _, _)
      refine ar_ldJ rfl rfl ?_
      refine ar_inl (mc := 0) (ms := 0) rfl rfl (Nat.le_of_ble_eq_true rfl) (Nat.le_of_ble_eq_true rfl) (by omega) (by omega) ?_
      refine ac_ink [some (.inr (.inl _)), none] mt_305 (Nat.le_of_ble_eq_true rfl) rfl ?_
      refine ar_ldJ rfl rfl ?_
      refine ar_ldJ rfl rfl ?_
      refine ar_push rfl ?_
      refine ar_shJk (z := 0) rfl (by decide) ?_
      refine ar_push rfl ?_
      refine ar_binJk (z := 0) rfl (by decide) ?_
      refine ar_binJk (z := 0) rfl (by decide) ?_
      refine ar_svJk [some (.inr (.inl _)), none] rfl rfl ?_
      refine ar_ldJ rfl rfl ?_
      refine ar_push rfl ?_
      refine ar_binJk (z := 0) rfl (by decide) ?_
      refine ar_ldJ rfl rfl ?_
      refine ar_push rfl ?_
      refine ar_shJk (z := 0) rfl (by decide) ?_
      refine ar_push rfl ?_
      refine ar_binJk (z := 0) rfl (by decide) ?_
      refine ar_binJk (z := 0) rfl (by decide) ?_
      refine ar_svJk [some (.inr (.inl _)), none] rfl rfl ?_
      refine ar_ldJ rfl rfl ?_
      refine ar_ldJ rfl rfl ?_
      refine ar_push rfl ?_
      refine ar_shJk (z := 0) rfl (by decide) ?_
      refine ar_binJk (z := 0) rfl (by decide) ?_
      refine ar_push rfl ?_
      refine ar_binJk (z := 0) rfl (by decide) ?_
      refine ar_svJk [some (.inr (.inl _)), none] rfl rfl ?_
      refine ar_ldJ rfl rfl ?_
      refine ar_ldJ rfl rfl ?_
      refine ar_push rfl ?_
      refine ar_shJk (z := 0) rfl (by decide) ?_
      refine ar_binJk (z := 0) rfl (by decide) ?_
      refine ar_svJk [some (.inr (.inl _)), none] rfl rfl ?_
      refine ar_ldJ rfl rfl ?_
      refine ar_ldJ rfl rfl ?_
      refine ar_push rfl ?_
      refine ar_shJk (z := 0) rfl (by decide) ?_
      refine ar_binJk (z := 0) rfl (by decide) ?_
      refine ar_svJk [some (.inr (.inl _)), none] rfl rfl ?_
      refine ar_ldJ rfl rfl ?_
      refine ar_ldJ rfl rfl ?_
      refine ar_push rfl ?_
      refine ar_shJk (z := 0) rfl (by decide) ?_
      refine ar_binJk (z := 0) rfl (by decide) ?_
      refine ar_svJk [some (.inr (.inl _)), none] rfl rfl ?_
      refine ar_ldJ rfl rfl ?_
      refine ar_l2ik (z := 0) rfl (by decide) ?_
      refine ar_push rfl ?_
      refine ar_bink (z := 0) rfl (by decide) ?_
      refine ar_ret rfl rfl ?_
      show aRun _ (aCall Mt _) _ 109 (_, [_, _, _, _], _, _, _)
      refine ar_bink (z := 0) rfl (by decide) ?_
      refine ar_ldJ rfl rfl ?_
      refine ar_inl (mc := 0) (ms := 0) rfl rfl (Nat.le_of_ble_eq_true rfl) (Nat.le_of_ble_eq_true rfl) (by omega) (by omega) ?_
      refine ac_ink [some (.inr (.inl _)), none] mt_305 (Nat.le_of_ble_eq_true rfl) rfl ?_
      refine ar_ldJ rfl rfl ?_
      refine ar_ldJ rfl rfl ?_
      refine ar_push rfl ?_
      refine ar_shJk (z := 0) rfl (by decide) ?_
      refine ar_push rfl ?_
      refine ar_binJk (z := 0) rfl (by decide) ?_
      refine ar_binJk (z := 0) rfl (by decide) ?_
      refine ar_svJk [some (.inr (.inl _)), none] rfl rfl ?_
      refine ar_ldJ rfl rfl ?_
      refine ar_push rfl ?_
      refine ar_binJk (z := 0) rfl (by decide) ?_
      refine ar_ldJ rfl rfl ?_
      refine ar_push rfl ?_
      refine ar_shJk (z := 0) rfl (by decide) ?_
      refine ar_push rfl ?_
      refine ar_binJk (z := 0) rfl (by decide) ?_
      refine ar_binJk (z := 0) rfl (by decide) ?_
      refine ar_svJk [some (.inr (.inl _)), none] rfl rfl ?_
      refine ar_ldJ rfl rfl ?_
      refine ar_ldJ rfl rfl ?_
      refine ar_push rfl ?_
      refine ar_shJk (z := 0) rfl (by decide) ?_
      refine ar_binJk (z := 0) rfl (by decide) ?_
      refine ar_push rfl ?_
      refine ar_binJk (z := 0) rfl (by decide) ?_
      refine ar_svJk [some (.inr (.inl _)), none] rfl rfl ?_
      refine ar_ldJ rfl rfl ?_
      refine ar_ldJ rfl rfl ?_
      refine ar_push rfl ?_
      refine ar_shJk (z := 0) rfl (by decide) ?_
      refine ar_binJk (z := 0) rfl (by decide) ?_
      refine ar_svJk [some (.inr (.inl _)), none] rfl rfl ?_
      refine ar_ldJ rfl rfl ?_
      refine ar_ldJ rfl rfl ?_
      refine ar_push rfl ?_
      refine ar_shJk (z := 0) rfl (by decide) ?_
      refine ar_binJk (z := 0) rfl (by decide) ?_
      refine ar_svJk [some (.inr (.inl _)), none] rfl rfl ?_
      refine ar_ldJ rfl rfl ?_
      refine ar_ldJ rfl rfl ?_
      refine ar_push rfl ?_
      refine ar_shJk (z := 0) rfl (by decide) ?_
      refine ar_binJk (z := 0) rfl (by decide) ?_
      refine ar_svJk [some (.inr (.inl _)), none] rfl rfl ?_
      refine ar_ldJ rfl rfl ?_
      refine ar_l2ik (z := 0) rfl (by decide) ?_
      refine ar_push rfl ?_
      refine ar_bink (z := 0) rfl (by decide) ?_
      refine ar_ret rfl rfl ?_
      show aRun _ (aCall Mt _) _ 115 (_, [_, _, _, _], _, _, _)
      refine ar_bink (z := 0) rfl (by decide) ?_
      refine ar_bink (z := 0) rfl (by decide) ?_
      refine ar_bink (z := 0) rfl (by decide) ?_
      refine ar_ret rfl rfl ?_
      show aRun _ (aCall Mt _) _ 66 (_, [_], _, _, _)
      refine ar_ret rfl rfl ?_
      refine ⟨_, 0, 0, _, rfl, Nat.zero_le _, Nat.zero_le _, rfl, ?_⟩
      refine rgen rFr_F (fun g hr => ?_)
      refine ac_ink [some (.inr (.inr (some 69))), some (.inl 0)] mt_264 (Nat.le_of_ble_eq_true rfl) rfl ?_
      refine ar_ldI rfl rfl ?_
      refine ar_if1f rfl (by decide) ?_
      refine ar_ldI rfl rfl ?_
      refine ar_ldA rfl rfl ?_
      refine ar_get rfl (hr.at 69 (by decide) (by decide) rfl) rfl ?_
      refine ar_bink (z := 0) rfl (by decide) ?_
      refine ar_if1t rfl (by decide) ?_
      refine ar_ldA rfl rfl ?_
      refine ar_ldI rfl rfl ?_
      refine ar_inl (mc := 0) (ms := 0) rfl (rcv_of (hr.at 69 (by decide) (by decide) rfl)) (Nat.le_of_ble_eq_true rfl) (Nat.le_of_ble_eq_true rfl) (by omega) (by omega) ?_
      refine ac_ink [some (.inr (.inr (some 69))), some (.inl 0), none, none, none] mt_262 (Nat.le_of_ble_eq_true rfl) rfl ?_
      refine ar_push rfl ?_
      refine ar_svIk [some (.inr (.inr (some 69))), some (.inl 0), some (.inl 0), none, none] rfl rfl ?_
      refine ar_ldI rfl rfl ?_
      refine ar_ldA rfl rfl ?_
      refine ar_get rfl (hr.at 69 (by decide) (by decide) rfl) rfl ?_
      refine ar_if2t rfl (by decide) ?_
      refine ar_push rfl ?_
      refine ar_svIk [some (.inr (.inr (some 69))), some (.inl 0), some (.inl 0), none, none] rfl rfl ?_
      refine ar_ldI rfl rfl ?_
      refine ar_ldA rfl rfl ?_
      refine ar_get rfl (hr.at 69 (by decide) (by decide) rfl) rfl ?_
      refine ar_if2t rfl (by decide) ?_
      refine ar_ret0 rfl ?_
      show aRun _ (aCall Mt _) _ 21 (_, [], _, _, _)
      refine ar_ldA rfl rfl ?_
      refine ar_ldI rfl rfl ?_
      refine ar_inl (mc := 0) (ms := 0) rfl (rcv_of (hr.at 69 (by decide) (by decide) rfl)) (Nat.le_of_ble_eq_true rfl) (Nat.le_of_ble_eq_true rfl) (by omega) (by omega) ?_
      refine ac_ink [some (.inr (.inr (some 69))), some (.inl 0), none, none] mt_263 (Nat.le_of_ble_eq_true rfl) rfl ?_
      refine ar_push rfl ?_
      refine ar_svIk [some (.inr (.inr (some 69))), some (.inl 0), some (.inl 0), none] rfl rfl ?_
      refine ar_push rfl ?_
      refine ar_svIk [some (.inr (.inr (some 69))), some (.inl 0), some (.inl 0), some (.inl 0)] rfl rfl ?_
      refine ar_ldI rfl rfl ?_
      refine ar_ldA rfl rfl ?_
      refine ar_get rfl (hr.at 69 (by decide) (by decide) rfl) rfl ?_
      refine ar_if2t rfl (by decide) ?_
      refine ar_push rfl ?_
      refine ar_svIk [some (.inr (.inr (some 69))), some (.inl 0), some (.inl 0), some (.inl 0)] rfl rfl ?_
      refine ar_ldI rfl rfl ?_
      refine ar_ldA rfl rfl ?_
      refine ar_get rfl (hr.at 69 (by decide) (by decide) rfl) rfl ?_
      refine ar_if2t rfl (by decide) ?_
      refine ar_ldI rfl rfl ?_
      refine ar_ret rfl rfl ?_
      show aRun _ (aCall Mt _) _ 26 (_, [_], _, _, _)
      refine ar_ret rfl rfl ?_
      exact ⟨rfl, hJ _ _ _⟩
  · refine ar_push rfl ?_
    refine ar_ret rfl rfl ?_
    refine ⟨_, 0, 0, _, rfl, Nat.zero_le _, Nat.zero_le _, rfl, ?_⟩
    refine rgen rFr_F (fun g hr => ?_)
    refine ac_ink [some (.inr (.inr (some 69))), some (.inl _)] mt_264 (Nat.le_of_ble_eq_true rfl) rfl ?_
    refine ar_ldI rfl rfl ?_
    refine ar_if1 rfl (fun c2 => ?_) (fun c2 => ?_)
    · refine ar_push rfl ?_
      refine ar_ret rfl rfl ?_
      exact ⟨rfl, hJ _ _ _⟩
    · refine ar_ldI rfl rfl ?_
      refine ar_ldA rfl rfl ?_
      refine ar_get rfl (hr.at 69 (by decide) (by decide) rfl) rfl ?_
      refine ar_bin rfl ?_
      refine ar_if1 rfl (fun c3 => ?_) (fun c3 => ?_)
      · refine ar_ldA rfl rfl ?_
        refine ar_ldI rfl rfl ?_
        refine ar_inl (mc := 0) (ms := 0) rfl (rcv_of (hr.at 69 (by decide) (by decide) rfl)) (Nat.le_of_ble_eq_true rfl) (Nat.le_of_ble_eq_true rfl) (by omega) (by omega) ?_
        refine ac_ink [some (.inr (.inr (some 69))), some (.inl _), none, none, none] mt_262 (Nat.le_of_ble_eq_true rfl) rfl ?_
        refine ar_push rfl ?_
        refine ar_svIk [some (.inr (.inr (some 69))), some (.inl _), some (.inl 0), none, none] rfl rfl ?_
        refine ar_ldI rfl rfl ?_
        refine ar_ldA rfl rfl ?_
        refine ar_get rfl (hr.at 69 (by decide) (by decide) rfl) rfl ?_
        refine ar_if2t rfl (by decide) ?_
        refine ar_push rfl ?_
        refine ar_svIk [some (.inr (.inr (some 69))), some (.inl _), some (.inl 0), none, none] rfl rfl ?_
        refine ar_ldI rfl rfl ?_
        refine ar_ldA rfl rfl ?_
        refine ar_get rfl (hr.at 69 (by decide) (by decide) rfl) rfl ?_
        refine ar_if2t rfl (by decide) ?_
        refine ar_ret0 rfl ?_
        show aRun _ (aCall Mt _) _ 21 (_, [], _, _, _)
        refine ar_ldA rfl rfl ?_
        refine ar_ldI rfl rfl ?_
        refine ar_inl (mc := 0) (ms := 0) rfl (rcv_of (hr.at 69 (by decide) (by decide) rfl)) (Nat.le_of_ble_eq_true rfl) (Nat.le_of_ble_eq_true rfl) (by omega) (by omega) ?_
        refine ac_ink [some (.inr (.inr (some 69))), some (.inl _), none, none] mt_263 (Nat.le_of_ble_eq_true rfl) rfl ?_
        refine ar_push rfl ?_
        refine ar_svIk [some (.inr (.inr (some 69))), some (.inl _), some (.inl 0), none] rfl rfl ?_
        refine ar_push rfl ?_
        refine ar_svIk [some (.inr (.inr (some 69))), some (.inl _), some (.inl 0), some (.inl 0)] rfl rfl ?_
        refine ar_ldI rfl rfl ?_
        refine ar_ldA rfl rfl ?_
        refine ar_get rfl (hr.at 69 (by decide) (by decide) rfl) rfl ?_
        refine ar_if2t rfl (by decide) ?_
        refine ar_push rfl ?_
        refine ar_svIk [some (.inr (.inr (some 69))), some (.inl _), some (.inl 0), some (.inl 0)] rfl rfl ?_
        refine ar_ldI rfl rfl ?_
        refine ar_ldA rfl rfl ?_
        refine ar_get rfl (hr.at 69 (by decide) (by decide) rfl) rfl ?_
        refine ar_if2t rfl (by decide) ?_
        refine ar_ldI rfl rfl ?_
        refine ar_ret rfl rfl ?_
        show aRun _ (aCall Mt _) _ 26 (_, [_], _, _, _)
        refine ar_ret rfl rfl ?_
        exact ⟨by exfalso; have z0 := (wi_no c1); have z1 := (lt_no c2); have z2 := (eq_to c3); have z3 := (show (x1 >>> ((0 : Int32) &&& 31)).toInt = x1.toInt from by rw [pk_shr x1 _ 0 (by decide)]; simp); have y0 : ((0) : Int32).toInt = 0 := (by decide); omega, hJ _ _ _⟩
      · refine ar_push rfl ?_
        refine ar_ret rfl rfl ?_
        exact ⟨rfl, hJ _ _ _⟩
end P1C
