/-! THE FIRST CALL on fresh objects, printed by program -/
section P1C
set_option maxRecDepth 20000 in
set_option maxHeartbeats 4000000 in
theorem p1_9 (x1 : Int32) (x2 : Int32) (x3 : Int32) (J : aH → Nat → Nat → Prop) (hJ : ∀ h a b, J h a b) (kc ks : Nat) (hkc : 1000 ≤ kc) (hks : 100000 ≤ ks) : aPairI 0 69 133 232 [.inl x1, .inl x2, .inl x3] J hF kc ks := by
  refine ⟨0, 0, _, by omega, by omega, rfl, ?_⟩
  refine ac_ink [some (.inr (.inr (some 0))), some (.inl _), some (.inl _), some (.inl _)] mt_133 (Nat.le_of_ble_eq_true rfl) rfl ?_
  refine ar_ldI rfl rfl ?_
  refine ar_inl (mc := 0) (ms := 0) rfl rfl (Nat.le_of_ble_eq_true rfl) (Nat.le_of_ble_eq_true rfl) (by omega) (by omega) ?_
  refine ac_ink [some (.inl _)] mt_175 (Nat.le_of_ble_eq_true rfl) rfl ?_
  refine ar_ldI rfl rfl ?_
  refine ar_push rfl ?_
  refine ar_push rfl ?_
  refine ar_callv rfl rfl (Nat.le_of_ble_eq_true rfl) (Nat.le_of_ble_eq_true rfl) rfl (sp_within _ _ _ _ _) ?_
  refine ar_ret rfl (bi_ret _) ?_
  show aRun _ (aCall Mt _) _ 4 (_, [_], _, _, _)
  refine ar_eqB rfl (fun c1 => ?_) (fun c1 => ?_)
  · refine ar_push rfl ?_
    refine ar_ret rfl rfl ?_
    refine ⟨_, 0, 0, _, rfl, Nat.zero_le _, Nat.zero_le _, rfl, ?_⟩
    refine rgen rFr_F (fun g hr => ?_)
    refine ac_ink [some (.inr (.inr (some 69))), some (.inl _), some (.inl _), some (.inl _)] mt_232 (Nat.le_of_ble_eq_true rfl) rfl ?_
    refine ar_ldI rfl rfl ?_
    refine ar_inl (mc := 0) (ms := 0) rfl rfl (Nat.le_of_ble_eq_true rfl) (Nat.le_of_ble_eq_true rfl) (by omega) (by omega) ?_
    refine ac_ink [some (.inl _)] mt_190 (Nat.le_of_ble_eq_true rfl) rfl ?_
    refine ar_ldI rfl rfl ?_
    refine ar_push rfl ?_
    refine ar_push rfl ?_
    refine ar_callv rfl rfl (Nat.le_of_ble_eq_true rfl) (Nat.le_of_ble_eq_true rfl) rfl (sp_in _ _ _ _ _) ?_
    refine ar_ret rfl (bi_ret _) ?_
    show aRun _ (aCall Mt _) _ 4 (_, [_], _, _, _)
    refine ar_if1t rfl (bi_e0t c1) ?_
    refine ar_push rfl ?_
    refine ar_ret rfl rfl ?_
    exact ⟨rfl, hJ _ _ _⟩
  · refine ar_ldI rfl rfl ?_
    refine ar_inl (mc := 0) (ms := 0) rfl rfl (Nat.le_of_ble_eq_true rfl) (Nat.le_of_ble_eq_true rfl) (by omega) (by omega) ?_
    refine ac_ink [some (.inl _)] mt_174 (Nat.le_of_ble_eq_true rfl) rfl ?_
    refine ar_ldI rfl rfl ?_
    refine ar_push rfl ?_
    refine ar_push rfl ?_
    refine ar_callv rfl rfl (Nat.le_of_ble_eq_true rfl) (Nat.le_of_ble_eq_true rfl) rfl (sp_within _ _ _ _ _) ?_
    refine ar_ret rfl (bi_ret _) ?_
    show aRun _ (aCall Mt _) _ 11 (_, [_], _, _, _)
    refine ar_eqB rfl (fun c2 => ?_) (fun c2 => ?_)
    · refine ar_push rfl ?_
      refine ar_ret rfl rfl ?_
      refine ⟨_, 0, 0, _, rfl, Nat.zero_le _, Nat.zero_le _, rfl, ?_⟩
      refine rgen rFr_F (fun g hr => ?_)
      refine ac_ink [some (.inr (.inr (some 69))), some (.inl _), some (.inl _), some (.inl _)] mt_232 (Nat.le_of_ble_eq_true rfl) rfl ?_
      refine ar_ldI rfl rfl ?_
      refine ar_inl (mc := 0) (ms := 0) rfl rfl (Nat.le_of_ble_eq_true rfl) (Nat.le_of_ble_eq_true rfl) (by omega) (by omega) ?_
      refine ac_ink [some (.inl _)] mt_190 (Nat.le_of_ble_eq_true rfl) rfl ?_
      refine ar_ldI rfl rfl ?_
      refine ar_push rfl ?_
      refine ar_push rfl ?_
      refine ar_callv rfl rfl (Nat.le_of_ble_eq_true rfl) (Nat.le_of_ble_eq_true rfl) rfl (sp_in _ _ _ _ _) ?_
      refine ar_ret rfl (bi_ret _) ?_
      show aRun _ (aCall Mt _) _ 4 (_, [_], _, _, _)
      refine ar_if1f rfl (bi_e0f c1) ?_
      refine ar_ldI rfl rfl ?_
      refine ar_inl (mc := 0) (ms := 0) rfl rfl (Nat.le_of_ble_eq_true rfl) (Nat.le_of_ble_eq_true rfl) (by omega) (by omega) ?_
      refine ac_ink [some (.inl _)] mt_189 (Nat.le_of_ble_eq_true rfl) rfl ?_
      refine ar_ldI rfl rfl ?_
      refine ar_push rfl ?_
      refine ar_push rfl ?_
      refine ar_callv rfl rfl (Nat.le_of_ble_eq_true rfl) (Nat.le_of_ble_eq_true rfl) rfl (sp_in _ _ _ _ _) ?_
      refine ar_ret rfl (bi_ret _) ?_
      show aRun _ (aCall Mt _) _ 11 (_, [_], _, _, _)
      refine ar_if1t rfl (bi_e0t c2) ?_
      refine ar_push rfl ?_
      refine ar_ret rfl rfl ?_
      exact ⟨rfl, hJ _ _ _⟩
    · refine ar_ldI rfl rfl ?_
      refine ar_inl (mc := 0) (ms := 0) rfl rfl (Nat.le_of_ble_eq_true rfl) (Nat.le_of_ble_eq_true rfl) (by omega) (by omega) ?_
      refine ac_ink [some (.inl _)] mt_174 (Nat.le_of_ble_eq_true rfl) rfl ?_
      refine ar_ldI rfl rfl ?_
      refine ar_push rfl ?_
      refine ar_push rfl ?_
      refine ar_callv rfl rfl (Nat.le_of_ble_eq_true rfl) (Nat.le_of_ble_eq_true rfl) rfl (sp_within _ _ _ _ _) ?_
      refine ar_ret rfl (bi_ret _) ?_
      show aRun _ (aCall Mt _) _ 18 (_, [_], _, _, _)
      refine ar_eqB rfl (fun c3 => ?_) (fun c3 => ?_)
      · refine ar_push rfl ?_
        refine ar_ret rfl rfl ?_
        refine ⟨_, 0, 0, _, rfl, Nat.zero_le _, Nat.zero_le _, rfl, ?_⟩
        refine rgen rFr_F (fun g hr => ?_)
        refine ac_ink [some (.inr (.inr (some 69))), some (.inl _), some (.inl _), some (.inl _)] mt_232 (Nat.le_of_ble_eq_true rfl) rfl ?_
        refine ar_ldI rfl rfl ?_
        refine ar_inl (mc := 0) (ms := 0) rfl rfl (Nat.le_of_ble_eq_true rfl) (Nat.le_of_ble_eq_true rfl) (by omega) (by omega) ?_
        refine ac_ink [some (.inl _)] mt_190 (Nat.le_of_ble_eq_true rfl) rfl ?_
        refine ar_ldI rfl rfl ?_
        refine ar_push rfl ?_
        refine ar_push rfl ?_
        refine ar_callv rfl rfl (Nat.le_of_ble_eq_true rfl) (Nat.le_of_ble_eq_true rfl) rfl (sp_in _ _ _ _ _) ?_
        refine ar_ret rfl (bi_ret _) ?_
        show aRun _ (aCall Mt _) _ 4 (_, [_], _, _, _)
        refine ar_if1f rfl (bi_e0f c1) ?_
        refine ar_ldI rfl rfl ?_
        refine ar_inl (mc := 0) (ms := 0) rfl rfl (Nat.le_of_ble_eq_true rfl) (Nat.le_of_ble_eq_true rfl) (by omega) (by omega) ?_
        refine ac_ink [some (.inl _)] mt_189 (Nat.le_of_ble_eq_true rfl) rfl ?_
        refine ar_ldI rfl rfl ?_
        refine ar_push rfl ?_
        refine ar_push rfl ?_
        refine ar_callv rfl rfl (Nat.le_of_ble_eq_true rfl) (Nat.le_of_ble_eq_true rfl) rfl (sp_in _ _ _ _ _) ?_
        refine ar_ret rfl (bi_ret _) ?_
        show aRun _ (aCall Mt _) _ 11 (_, [_], _, _, _)
        refine ar_if1f rfl (bi_e0f c2) ?_
        refine ar_ldI rfl rfl ?_
        refine ar_inl (mc := 0) (ms := 0) rfl rfl (Nat.le_of_ble_eq_true rfl) (Nat.le_of_ble_eq_true rfl) (by omega) (by omega) ?_
        refine ac_ink [some (.inl _)] mt_189 (Nat.le_of_ble_eq_true rfl) rfl ?_
        refine ar_ldI rfl rfl ?_
        refine ar_push rfl ?_
        refine ar_push rfl ?_
        refine ar_callv rfl rfl (Nat.le_of_ble_eq_true rfl) (Nat.le_of_ble_eq_true rfl) rfl (sp_in _ _ _ _ _) ?_
        refine ar_ret rfl (bi_ret _) ?_
        show aRun _ (aCall Mt _) _ 18 (_, [_], _, _, _)
        refine ar_if1t rfl (bi_e0t c3) ?_
        refine ar_push rfl ?_
        refine ar_ret rfl rfl ?_
        exact ⟨rfl, hJ _ _ _⟩
      · refine ar_ldI rfl rfl ?_
        refine ar_ldI rfl rfl ?_
        refine ar_if2 rfl (fun c4 => ?_) (fun c4 => ?_)
        · refine ar_ldA rfl rfl ?_
          refine ar_get rfl rfl rfl ?_
          refine ar_get rfl rfl rfl ?_
          refine ar_push rfl ?_
          refine ar_if2t rfl (by decide) ?_
          refine ar_ldA rfl rfl ?_
          refine ar_get rfl rfl rfl ?_
          refine ar_inl (mc := 0) (ms := 0) rfl (rcv_of rfl) (Nat.le_of_ble_eq_true rfl) (Nat.le_of_ble_eq_true rfl) (by omega) (by omega) ?_
          refine ac_ink [some (.inr (.inr (some 41)))] mt_74 (Nat.le_of_ble_eq_true rfl) rfl ?_
          refine ar_ldA rfl rfl ?_
          refine ar_get rfl rfl rfl ?_
          refine ar_push rfl ?_
          refine ar_inl (mc := 0) (ms := 0) rfl rfl (Nat.le_of_ble_eq_true rfl) (Nat.le_of_ble_eq_true rfl) (by omega) (by omega) ?_
          refine ac_ink [some (.inr (.inr (some 45))), some (.inr (.inl _)), none, none, none] mt_306 (Nat.le_of_ble_eq_true rfl) rfl ?_
          refine ar_push rfl ?_
          refine ar_svIk [some (.inr (.inr (some 45))), some (.inr (.inl _)), none, some (.inl 0), none] rfl rfl ?_
          refine ar_ldA rfl rfl ?_
          refine ar_len rfl rfl ?_
          refine ar_svIk [some (.inr (.inr (some 45))), some (.inr (.inl _)), none, some (.inl 0), some (.inl 36)] rfl rfl ?_
          refine ar_ldI rfl rfl ?_
          refine ar_ldI rfl rfl ?_
          refine ar_if2f rfl (by decide) ?_
          refine ar_ldA rfl rfl ?_
          refine ar_ldI rfl rfl ?_
          refine ar_ldJ rfl rfl ?_
          refine ar_astJ rfl rfl (by decide) (Nat.le_of_ble_eq_true rfl) ?_
          refine ar_incl (z := 1) [some (.inr (.inr (some 45))), some (.inr (.inl _)), none, some (.inl 1), some (.inl 36)] rfl rfl (by decide) rfl ?_
          refine ar_go rfl ?_
          refine ar_ldI rfl rfl ?_
          refine ar_ldI rfl rfl ?_
          refine ar_if2f rfl (by decide) ?_
          refine ar_ldA rfl rfl ?_
          refine ar_ldI rfl rfl ?_
          refine ar_ldJ rfl rfl ?_
          refine ar_astJ rfl (hs_eq rfl) (by decide) (Nat.le_of_ble_eq_true rfl) ?_
          refine ar_incl (z := 2) [some (.inr (.inr (some 45))), some (.inr (.inl _)), none, some (.inl 2), some (.inl 36)] rfl rfl (by decide) rfl ?_
          refine ar_go rfl ?_
          refine ar_ldI rfl rfl ?_
          refine ar_ldI rfl rfl ?_
          refine ar_if2f rfl (by decide) ?_
          refine ar_ldA rfl rfl ?_
          refine ar_ldI rfl rfl ?_
          refine ar_ldJ rfl rfl ?_
          refine ar_astJ rfl (hs_eq (hs_eq rfl)) (by decide) (Nat.le_of_ble_eq_true rfl) ?_
          refine ar_incl (z := 3) [some (.inr (.inr (some 45))), some (.inr (.inl _)), none, some (.inl 3), some (.inl 36)] rfl rfl (by decide) rfl ?_
          refine ar_go rfl ?_
          refine ar_ldI rfl rfl ?_
          refine ar_ldI rfl rfl ?_
          refine ar_if2f rfl (by decide) ?_
          refine ar_ldA rfl rfl ?_
          refine ar_ldI rfl rfl ?_
          refine ar_ldJ rfl rfl ?_
          refine ar_astJ rfl (hs_eq (hs_eq (hs_eq rfl))) (by decide) (Nat.le_of_ble_eq_true rfl) ?_
          refine ar_incl (z := 4) [some (.inr (.inr (some 45))), some (.inr (.inl _)), none, some (.inl 4), some (.inl 36)] rfl rfl (by decide) rfl ?_
          refine ar_go rfl ?_
          refine ar_ldI rfl rfl ?_
          refine ar_ldI rfl rfl ?_
          refine ar_if2f rfl (by decide) ?_
          refine ar_ldA rfl rfl ?_
          refine ar_ldI rfl rfl ?_
          refine ar_ldJ rfl rfl ?_
          refine ar_astJ rfl (hs_eq (hs_eq (hs_eq (hs_eq rfl)))) (by decide) (Nat.le_of_ble_eq_true rfl) ?_
          refine ar_incl (z := 5) [some (.inr (.inr (some 45))), some (.inr (.inl _)), none, some (.inl 5), some (.inl 36)] rfl rfl (by decide) rfl ?_
          refine ar_go rfl ?_
          refine ar_ldI rfl rfl ?_
          refine ar_ldI rfl rfl ?_
          refine ar_if2f rfl (by decide) ?_
          refine ar_ldA rfl rfl ?_
          refine ar_ldI rfl rfl ?_
          refine ar_ldJ rfl rfl ?_
          refine ar_astJ rfl (hs_eq (hs_eq (hs_eq (hs_eq (hs_eq rfl))))) (by decide) (Nat.le_of_ble_eq_true rfl) ?_
          refine ar_incl (z := 6) [some (.inr (.inr (some 45))), some (.inr (.inl _)), none, some (.inl 6), some (.inl 36)] rfl rfl (by decide) rfl ?_
          refine ar_go rfl ?_
          refine ar_ldI rfl rfl ?_
          refine ar_ldI rfl rfl ?_
          refine ar_if2f rfl (by decide) ?_
          refine ar_ldA rfl rfl ?_
          refine ar_ldI rfl rfl ?_
          refine ar_ldJ rfl rfl ?_
          refine ar_astJ rfl (hs_eq (hs_eq (hs_eq (hs_eq (hs_eq (hs_eq rfl)))))) (by decide) (Nat.le_of_ble_eq_true rfl) ?_
          refine ar_incl (z := 7) [some (.inr (.inr (some 45))), some (.inr (.inl _)), none, some (.inl 7), some (.inl 36)] rfl rfl (by decide) rfl ?_
          refine ar_go rfl ?_
          refine ar_ldI rfl rfl ?_
          refine ar_ldI rfl rfl ?_
          refine ar_if2f rfl (by decide) ?_
          refine ar_ldA rfl rfl ?_
          refine ar_ldI rfl rfl ?_
          refine ar_ldJ rfl rfl ?_
          refine ar_astJ rfl (hs_eq (hs_eq (hs_eq (hs_eq (hs_eq (hs_eq (hs_eq rfl))))))) (by decide) (Nat.le_of_ble_eq_true rfl) ?_
          refine ar_incl (z := 8) [some (.inr (.inr (some 45))), some (.inr (.inl _)), none, some (.inl 8), some (.inl 36)] rfl rfl (by decide) rfl ?_
          refine ar_go rfl ?_
          refine ar_ldI rfl rfl ?_
          refine ar_ldI rfl rfl ?_
          refine ar_if2f rfl (by decide) ?_
          refine ar_ldA rfl rfl ?_
          refine ar_ldI rfl rfl ?_
          refine ar_ldJ rfl rfl ?_
          refine ar_astJ rfl (hs_eq (hs_eq (hs_eq (hs_eq (hs_eq (hs_eq (hs_eq (hs_eq rfl)))))))) (by decide) (Nat.le_of_ble_eq_true rfl) ?_
          refine ar_incl (z := 9) [some (.inr (.inr (some 45))), some (.inr (.inl _)), none, some (.inl 9), some (.inl 36)] rfl rfl (by decide) rfl ?_
          refine ar_go rfl ?_
          refine ar_ldI rfl rfl ?_
          refine ar_ldI rfl rfl ?_
          refine ar_if2f rfl (by decide) ?_
          refine ar_ldA rfl rfl ?_
          refine ar_ldI rfl rfl ?_
          refine ar_ldJ rfl rfl ?_
          refine ar_astJ rfl (hs_eq (hs_eq (hs_eq (hs_eq (hs_eq (hs_eq (hs_eq (hs_eq (hs_eq rfl))))))))) (by decide) (Nat.le_of_ble_eq_true rfl) ?_
          refine ar_incl (z := 10) [some (.inr (.inr (some 45))), some (.inr (.inl _)), none, some (.inl 10), some (.inl 36)] rfl rfl (by decide) rfl ?_
          refine ar_go rfl ?_
          refine ar_ldI rfl rfl ?_
          refine ar_ldI rfl rfl ?_
          refine ar_if2f rfl (by decide) ?_
          refine ar_ldA rfl rfl ?_
          refine ar_ldI rfl rfl ?_
          refine ar_ldJ rfl rfl ?_
          refine ar_astJ rfl (hs_eq (hs_eq (hs_eq (hs_eq (hs_eq (hs_eq (hs_eq (hs_eq (hs_eq (hs_eq rfl)))))))))) (by decide) (Nat.le_of_ble_eq_true rfl) ?_
          refine ar_incl (z := 11) [some (.inr (.inr (some 45))), some (.inr (.inl _)), none, some (.inl 11), some (.inl 36)] rfl rfl (by decide) rfl ?_
          refine ar_go rfl ?_
          refine ar_ldI rfl rfl ?_
          refine ar_ldI rfl rfl ?_
          refine ar_if2f rfl (by decide) ?_
          refine ar_ldA rfl rfl ?_
          refine ar_ldI rfl rfl ?_
          refine ar_ldJ rfl rfl ?_
          refine ar_astJ rfl (hs_eq (hs_eq (hs_eq (hs_eq (hs_eq (hs_eq (hs_eq (hs_eq (hs_eq (hs_eq (hs_eq rfl))))))))))) (by decide) (Nat.le_of_ble_eq_true rfl) ?_
          refine ar_incl (z := 12) [some (.inr (.inr (some 45))), some (.inr (.inl _)), none, some (.inl 12), some (.inl 36)] rfl rfl (by decide) rfl ?_
          refine ar_go rfl ?_
          refine ar_ldI rfl rfl ?_
          refine ar_ldI rfl rfl ?_
          refine ar_if2f rfl (by decide) ?_
          refine ar_ldA rfl rfl ?_
          refine ar_ldI rfl rfl ?_
          refine ar_ldJ rfl rfl ?_
          refine ar_astJ rfl (hs_eq (hs_eq (hs_eq (hs_eq (hs_eq (hs_eq (hs_eq (hs_eq (hs_eq (hs_eq (hs_eq (hs_eq rfl)))))))))))) (by decide) (Nat.le_of_ble_eq_true rfl) ?_
          refine ar_incl (z := 13) [some (.inr (.inr (some 45))), some (.inr (.inl _)), none, some (.inl 13), some (.inl 36)] rfl rfl (by decide) rfl ?_
          refine ar_go rfl ?_
          refine ar_ldI rfl rfl ?_
          refine ar_ldI rfl rfl ?_
          refine ar_if2f rfl (by decide) ?_
          refine ar_ldA rfl rfl ?_
          refine ar_ldI rfl rfl ?_
          refine ar_ldJ rfl rfl ?_
          refine ar_astJ rfl (hs_eq (hs_eq (hs_eq (hs_eq (hs_eq (hs_eq (hs_eq (hs_eq (hs_eq (hs_eq (hs_eq (hs_eq (hs_eq rfl))))))))))))) (by decide) (Nat.le_of_ble_eq_true rfl) ?_
          refine ar_incl (z := 14) [some (.inr (.inr (some 45))), some (.inr (.inl _)), none, some (.inl 14), some (.inl 36)] rfl rfl (by decide) rfl ?_
          refine ar_go rfl ?_
          refine ar_ldI rfl rfl ?_
          refine ar_ldI rfl rfl ?_
          refine ar_if2f rfl (by decide) ?_
          refine ar_ldA rfl rfl ?_
          refine ar_ldI rfl rfl ?_
          refine ar_ldJ rfl rfl ?_
          refine ar_astJ rfl (hs_eq (hs_eq (hs_eq (hs_eq (hs_eq (hs_eq (hs_eq (hs_eq (hs_eq (hs_eq (hs_eq (hs_eq (hs_eq (hs_eq rfl)))))))))))))) (by decide) (Nat.le_of_ble_eq_true rfl) ?_
          refine ar_incl (z := 15) [some (.inr (.inr (some 45))), some (.inr (.inl _)), none, some (.inl 15), some (.inl 36)] rfl rfl (by decide) rfl ?_
          refine ar_go rfl ?_
          refine ar_ldI rfl rfl ?_
          refine ar_ldI rfl rfl ?_
          refine ar_if2f rfl (by decide) ?_
          refine ar_ldA rfl rfl ?_
          refine ar_ldI rfl rfl ?_
          refine ar_ldJ rfl rfl ?_
          refine ar_astJ rfl (hs_eq (hs_eq (hs_eq (hs_eq (hs_eq (hs_eq (hs_eq (hs_eq (hs_eq (hs_eq (hs_eq (hs_eq (hs_eq (hs_eq (hs_eq rfl))))))))))))))) (by decide) (Nat.le_of_ble_eq_true rfl) ?_
          refine ar_incl (z := 16) [some (.inr (.inr (some 45))), some (.inr (.inl _)), none, some (.inl 16), some (.inl 36)] rfl rfl (by decide) rfl ?_
          refine ar_go rfl ?_
          refine ar_ldI rfl rfl ?_
          refine ar_ldI rfl rfl ?_
          refine ar_if2f rfl (by decide) ?_
          refine ar_ldA rfl rfl ?_
          refine ar_ldI rfl rfl ?_
          refine ar_ldJ rfl rfl ?_
          refine ar_astJ rfl (hs_eq (hs_eq (hs_eq (hs_eq (hs_eq (hs_eq (hs_eq (hs_eq (hs_eq (hs_eq (hs_eq (hs_eq (hs_eq (hs_eq (hs_eq (hs_eq rfl)))))))))))))))) (by decide) (Nat.le_of_ble_eq_true rfl) ?_
          refine ar_incl (z := 17) [some (.inr (.inr (some 45))), some (.inr (.inl _)), none, some (.inl 17), some (.inl 36)] rfl rfl (by decide) rfl ?_
          refine ar_go rfl ?_
          refine ar_ldI rfl rfl ?_
          refine ar_ldI rfl rfl ?_
          refine ar_if2f rfl (by decide) ?_
          refine ar_ldA rfl rfl ?_
          refine ar_ldI rfl rfl ?_
          refine ar_ldJ rfl rfl ?_
          refine ar_astJ rfl (hs_eq (hs_eq (hs_eq (hs_eq (hs_eq (hs_eq (hs_eq (hs_eq (hs_eq (hs_eq (hs_eq (hs_eq (hs_eq (hs_eq (hs_eq (hs_eq (hs_eq rfl))))))))))))))))) (by decide) (Nat.le_of_ble_eq_true rfl) ?_
          refine ar_incl (z := 18) [some (.inr (.inr (some 45))), some (.inr (.inl _)), none, some (.inl 18), some (.inl 36)] rfl rfl (by decide) rfl ?_
          refine ar_go rfl ?_
          refine ar_ldI rfl rfl ?_
          refine ar_ldI rfl rfl ?_
          refine ar_if2f rfl (by decide) ?_
          refine ar_ldA rfl rfl ?_
          refine ar_ldI rfl rfl ?_
          refine ar_ldJ rfl rfl ?_
          refine ar_astJ rfl (hs_eq (hs_eq (hs_eq (hs_eq (hs_eq (hs_eq (hs_eq (hs_eq (hs_eq (hs_eq (hs_eq (hs_eq (hs_eq (hs_eq (hs_eq (hs_eq (hs_eq (hs_eq rfl)))))))))))))))))) (by decide) (Nat.le_of_ble_eq_true rfl) ?_
          refine ar_incl (z := 19) [some (.inr (.inr (some 45))), some (.inr (.inl _)), none, some (.inl 19), some (.inl 36)] rfl rfl (by decide) rfl ?_
          refine ar_go rfl ?_
          refine ar_ldI rfl rfl ?_
          refine ar_ldI rfl rfl ?_
          refine ar_if2f rfl (by decide) ?_
          refine ar_ldA rfl rfl ?_
          refine ar_ldI rfl rfl ?_
          refine ar_ldJ rfl rfl ?_
          refine ar_astJ rfl (hs_eq (hs_eq (hs_eq (hs_eq (hs_eq (hs_eq (hs_eq (hs_eq (hs_eq (hs_eq (hs_eq (hs_eq (hs_eq (hs_eq (hs_eq (hs_eq (hs_eq (hs_eq (hs_eq rfl))))))))))))))))))) (by decide) (Nat.le_of_ble_eq_true rfl) ?_
          refine ar_incl (z := 20) [some (.inr (.inr (some 45))), some (.inr (.inl _)), none, some (.inl 20), some (.inl 36)] rfl rfl (by decide) rfl ?_
          refine ar_go rfl ?_
          refine ar_ldI rfl rfl ?_
          refine ar_ldI rfl rfl ?_
          refine ar_if2f rfl (by decide) ?_
          refine ar_ldA rfl rfl ?_
          refine ar_ldI rfl rfl ?_
          refine ar_ldJ rfl rfl ?_
          refine ar_astJ rfl (hs_eq (hs_eq (hs_eq (hs_eq (hs_eq (hs_eq (hs_eq (hs_eq (hs_eq (hs_eq (hs_eq (hs_eq (hs_eq (hs_eq (hs_eq (hs_eq (hs_eq (hs_eq (hs_eq (hs_eq rfl)))))))))))))))))))) (by decide) (Nat.le_of_ble_eq_true rfl) ?_
          refine ar_incl (z := 21) [some (.inr (.inr (some 45))), some (.inr (.inl _)), none, some (.inl 21), some (.inl 36)] rfl rfl (by decide) rfl ?_
          refine ar_go rfl ?_
          refine ar_ldI rfl rfl ?_
          refine ar_ldI rfl rfl ?_
          refine ar_if2f rfl (by decide) ?_
          refine ar_ldA rfl rfl ?_
          refine ar_ldI rfl rfl ?_
          refine ar_ldJ rfl rfl ?_
          refine ar_astJ rfl (hs_eq (hs_eq (hs_eq (hs_eq (hs_eq (hs_eq (hs_eq (hs_eq (hs_eq (hs_eq (hs_eq (hs_eq (hs_eq (hs_eq (hs_eq (hs_eq (hs_eq (hs_eq (hs_eq (hs_eq (hs_eq rfl))))))))))))))))))))) (by decide) (Nat.le_of_ble_eq_true rfl) ?_
          refine ar_incl (z := 22) [some (.inr (.inr (some 45))), some (.inr (.inl _)), none, some (.inl 22), some (.inl 36)] rfl rfl (by decide) rfl ?_
          refine ar_go rfl ?_
          refine ar_ldI rfl rfl ?_
          refine ar_ldI rfl rfl ?_
          refine ar_if2f rfl (by decide) ?_
          refine ar_ldA rfl rfl ?_
          refine ar_ldI rfl rfl ?_
          refine ar_ldJ rfl rfl ?_
          refine ar_astJ rfl (hs_eq (hs_eq (hs_eq (hs_eq (hs_eq (hs_eq (hs_eq (hs_eq (hs_eq (hs_eq (hs_eq (hs_eq (hs_eq (hs_eq (hs_eq (hs_eq (hs_eq (hs_eq (hs_eq (hs_eq (hs_eq (hs_eq rfl)))))))))))))))))))))) (by decide) (Nat.le_of_ble_eq_true rfl) ?_
          refine ar_incl (z := 23) [some (.inr (.inr (some 45))), some (.inr (.inl _)), none, some (.inl 23), some (.inl 36)] rfl rfl (by decide) rfl ?_
          refine ar_go rfl ?_
          refine ar_ldI rfl rfl ?_
          refine ar_ldI rfl rfl ?_
          refine ar_if2f rfl (by decide) ?_
          refine ar_ldA rfl rfl ?_
          refine ar_ldI rfl rfl ?_
          refine ar_ldJ rfl rfl ?_
          refine ar_astJ rfl (hs_eq (hs_eq (hs_eq (hs_eq (hs_eq (hs_eq (hs_eq (hs_eq (hs_eq (hs_eq (hs_eq (hs_eq (hs_eq (hs_eq (hs_eq (hs_eq (hs_eq (hs_eq (hs_eq (hs_eq (hs_eq (hs_eq (hs_eq rfl))))))))))))))))))))))) (by decide) (Nat.le_of_ble_eq_true rfl) ?_
          refine ar_incl (z := 24) [some (.inr (.inr (some 45))), some (.inr (.inl _)), none, some (.inl 24), some (.inl 36)] rfl rfl (by decide) rfl ?_
          refine ar_go rfl ?_
          refine ar_ldI rfl rfl ?_
          refine ar_ldI rfl rfl ?_
          refine ar_if2f rfl (by decide) ?_
          refine ar_ldA rfl rfl ?_
          refine ar_ldI rfl rfl ?_
          refine ar_ldJ rfl rfl ?_
          refine ar_astJ rfl (hs_eq (hs_eq (hs_eq (hs_eq (hs_eq (hs_eq (hs_eq (hs_eq (hs_eq (hs_eq (hs_eq (hs_eq (hs_eq (hs_eq (hs_eq (hs_eq (hs_eq (hs_eq (hs_eq (hs_eq (hs_eq (hs_eq (hs_eq (hs_eq rfl)))))))))))))))))))))))) (by decide) (Nat.le_of_ble_eq_true rfl) ?_
          refine ar_incl (z := 25) [some (.inr (.inr (some 45))), some (.inr (.inl _)), none, some (.inl 25), some (.inl 36)] rfl rfl (by decide) rfl ?_
          refine ar_go rfl ?_
          refine ar_ldI rfl rfl ?_
          refine ar_ldI rfl rfl ?_
          refine ar_if2f rfl (by decide) ?_
          refine ar_ldA rfl rfl ?_
          refine ar_ldI rfl rfl ?_
          refine ar_ldJ rfl rfl ?_
          refine ar_astJ rfl (hs_eq (hs_eq (hs_eq (hs_eq (hs_eq (hs_eq (hs_eq (hs_eq (hs_eq (hs_eq (hs_eq (hs_eq (hs_eq (hs_eq (hs_eq (hs_eq (hs_eq (hs_eq (hs_eq (hs_eq (hs_eq (hs_eq (hs_eq (hs_eq (hs_eq rfl))))))))))))))))))))))))) (by decide) (Nat.le_of_ble_eq_true rfl) ?_
          refine ar_incl (z := 26) [some (.inr (.inr (some 45))), some (.inr (.inl _)), none, some (.inl 26), some (.inl 36)] rfl rfl (by decide) rfl ?_
          refine ar_go rfl ?_
          refine ar_ldI rfl rfl ?_
          refine ar_ldI rfl rfl ?_
          refine ar_if2f rfl (by decide) ?_
          refine ar_ldA rfl rfl ?_
          refine ar_ldI rfl rfl ?_
          refine ar_ldJ rfl rfl ?_
          refine ar_astJ rfl (hs_eq (hs_eq (hs_eq (hs_eq (hs_eq (hs_eq (hs_eq (hs_eq (hs_eq (hs_eq (hs_eq (hs_eq (hs_eq (hs_eq (hs_eq (hs_eq (hs_eq (hs_eq (hs_eq (hs_eq (hs_eq (hs_eq (hs_eq (hs_eq (hs_eq (hs_eq rfl)))))))))))))))))))))))))) (by decide) (Nat.le_of_ble_eq_true rfl) ?_
          refine ar_incl (z := 27) [some (.inr (.inr (some 45))), some (.inr (.inl _)), none, some (.inl 27), some (.inl 36)] rfl rfl (by decide) rfl ?_
          refine ar_go rfl ?_
          refine ar_ldI rfl rfl ?_
          refine ar_ldI rfl rfl ?_
          refine ar_if2f rfl (by decide) ?_
          refine ar_ldA rfl rfl ?_
          refine ar_ldI rfl rfl ?_
          refine ar_ldJ rfl rfl ?_
          refine ar_astJ rfl (hs_eq (hs_eq (hs_eq (hs_eq (hs_eq (hs_eq (hs_eq (hs_eq (hs_eq (hs_eq (hs_eq (hs_eq (hs_eq (hs_eq (hs_eq (hs_eq (hs_eq (hs_eq (hs_eq (hs_eq (hs_eq (hs_eq (hs_eq (hs_eq (hs_eq (hs_eq (hs_eq rfl))))))))))))))))))))))))))) (by decide) (Nat.le_of_ble_eq_true rfl) ?_
          refine ar_incl (z := 28) [some (.inr (.inr (some 45))), some (.inr (.inl _)), none, some (.inl 28), some (.inl 36)] rfl rfl (by decide) rfl ?_
          refine ar_go rfl ?_
          refine ar_ldI rfl rfl ?_
          refine ar_ldI rfl rfl ?_
          refine ar_if2f rfl (by decide) ?_
          refine ar_ldA rfl rfl ?_
          refine ar_ldI rfl rfl ?_
          refine ar_ldJ rfl rfl ?_
          refine ar_astJ rfl (hs_eq (hs_eq (hs_eq (hs_eq (hs_eq (hs_eq (hs_eq (hs_eq (hs_eq (hs_eq (hs_eq (hs_eq (hs_eq (hs_eq (hs_eq (hs_eq (hs_eq (hs_eq (hs_eq (hs_eq (hs_eq (hs_eq (hs_eq (hs_eq (hs_eq (hs_eq (hs_eq (hs_eq rfl)))))))))))))))))))))))))))) (by decide) (Nat.le_of_ble_eq_true rfl) ?_
          refine ar_incl (z := 29) [some (.inr (.inr (some 45))), some (.inr (.inl _)), none, some (.inl 29), some (.inl 36)] rfl rfl (by decide) rfl ?_
          refine ar_go rfl ?_
          refine ar_ldI rfl rfl ?_
          refine ar_ldI rfl rfl ?_
          refine ar_if2f rfl (by decide) ?_
          refine ar_ldA rfl rfl ?_
          refine ar_ldI rfl rfl ?_
          refine ar_ldJ rfl rfl ?_
          refine ar_astJ rfl (hs_eq (hs_eq (hs_eq (hs_eq (hs_eq (hs_eq (hs_eq (hs_eq (hs_eq (hs_eq (hs_eq (hs_eq (hs_eq (hs_eq (hs_eq (hs_eq (hs_eq (hs_eq (hs_eq (hs_eq (hs_eq (hs_eq (hs_eq (hs_eq (hs_eq (hs_eq (hs_eq (hs_eq (hs_eq rfl))))))))))))))))))))))))))))) (by decide) (Nat.le_of_ble_eq_true rfl) ?_
          refine ar_incl (z := 30) [some (.inr (.inr (some 45))), some (.inr (.inl _)), none, some (.inl 30), some (.inl 36)] rfl rfl (by decide) rfl ?_
          refine ar_go rfl ?_
          refine ar_ldI rfl rfl ?_
          refine ar_ldI rfl rfl ?_
          refine ar_if2f rfl (by decide) ?_
          refine ar_ldA rfl rfl ?_
          refine ar_ldI rfl rfl ?_
          refine ar_ldJ rfl rfl ?_
          refine ar_astJ rfl (hs_eq (hs_eq (hs_eq (hs_eq (hs_eq (hs_eq (hs_eq (hs_eq (hs_eq (hs_eq (hs_eq (hs_eq (hs_eq (hs_eq (hs_eq (hs_eq (hs_eq (hs_eq (hs_eq (hs_eq (hs_eq (hs_eq (hs_eq (hs_eq (hs_eq (hs_eq (hs_eq (hs_eq (hs_eq (hs_eq rfl)))))))))))))))))))))))))))))) (by decide) (Nat.le_of_ble_eq_true rfl) ?_
          refine ar_incl (z := 31) [some (.inr (.inr (some 45))), some (.inr (.inl _)), none, some (.inl 31), some (.inl 36)] rfl rfl (by decide) rfl ?_
          refine ar_go rfl ?_
          refine ar_ldI rfl rfl ?_
          refine ar_ldI rfl rfl ?_
          refine ar_if2f rfl (by decide) ?_
          refine ar_ldA rfl rfl ?_
          refine ar_ldI rfl rfl ?_
          refine ar_ldJ rfl rfl ?_
          refine ar_astJ rfl (hs_eq (hs_eq (hs_eq (hs_eq (hs_eq (hs_eq (hs_eq (hs_eq (hs_eq (hs_eq (hs_eq (hs_eq (hs_eq (hs_eq (hs_eq (hs_eq (hs_eq (hs_eq (hs_eq (hs_eq (hs_eq (hs_eq (hs_eq (hs_eq (hs_eq (hs_eq (hs_eq (hs_eq (hs_eq (hs_eq (hs_eq rfl))))))))))))))))))))))))))))))) (by decide) (Nat.le_of_ble_eq_true rfl) ?_
          refine ar_incl (z := 32) [some (.inr (.inr (some 45))), some (.inr (.inl _)), none, some (.inl 32), some (.inl 36)] rfl rfl (by decide) rfl ?_
          refine ar_go rfl ?_
          refine ar_ldI rfl rfl ?_
          refine ar_ldI rfl rfl ?_
          refine ar_if2f rfl (by decide) ?_
          refine ar_ldA rfl rfl ?_
          refine ar_ldI rfl rfl ?_
          refine ar_ldJ rfl rfl ?_
          refine ar_astJ rfl (hs_eq (hs_eq (hs_eq (hs_eq (hs_eq (hs_eq (hs_eq (hs_eq (hs_eq (hs_eq (hs_eq (hs_eq (hs_eq (hs_eq (hs_eq (hs_eq (hs_eq (hs_eq (hs_eq (hs_eq (hs_eq (hs_eq (hs_eq (hs_eq (hs_eq (hs_eq (hs_eq (hs_eq (hs_eq (hs_eq (hs_eq (hs_eq rfl)))))))))))))))))))))))))))))))) (by decide) (Nat.le_of_ble_eq_true rfl) ?_
          refine ar_incl (z := 33) [some (.inr (.inr (some 45))), some (.inr (.inl _)), none, some (.inl 33), some (.inl 36)] rfl rfl (by decide) rfl ?_
          refine ar_go rfl ?_
          refine ar_ldI rfl rfl ?_
          refine ar_ldI rfl rfl ?_
          refine ar_if2f rfl (by decide) ?_
          refine ar_ldA rfl rfl ?_
          refine ar_ldI rfl rfl ?_
          refine ar_ldJ rfl rfl ?_
          refine ar_astJ rfl (hs_eq (hs_eq (hs_eq (hs_eq (hs_eq (hs_eq (hs_eq (hs_eq (hs_eq (hs_eq (hs_eq (hs_eq (hs_eq (hs_eq (hs_eq (hs_eq (hs_eq (hs_eq (hs_eq (hs_eq (hs_eq (hs_eq (hs_eq (hs_eq (hs_eq (hs_eq (hs_eq (hs_eq (hs_eq (hs_eq (hs_eq (hs_eq (hs_eq rfl))))))))))))))))))))))))))))))))) (by decide) (Nat.le_of_ble_eq_true rfl) ?_
          refine ar_incl (z := 34) [some (.inr (.inr (some 45))), some (.inr (.inl _)), none, some (.inl 34), some (.inl 36)] rfl rfl (by decide) rfl ?_
          refine ar_go rfl ?_
          refine ar_ldI rfl rfl ?_
          refine ar_ldI rfl rfl ?_
          refine ar_if2f rfl (by decide) ?_
          refine ar_ldA rfl rfl ?_
          refine ar_ldI rfl rfl ?_
          refine ar_ldJ rfl rfl ?_
          refine ar_astJ rfl (hs_eq (hs_eq (hs_eq (hs_eq (hs_eq (hs_eq (hs_eq (hs_eq (hs_eq (hs_eq (hs_eq (hs_eq (hs_eq (hs_eq (hs_eq (hs_eq (hs_eq (hs_eq (hs_eq (hs_eq (hs_eq (hs_eq (hs_eq (hs_eq (hs_eq (hs_eq (hs_eq (hs_eq (hs_eq (hs_eq (hs_eq (hs_eq (hs_eq (hs_eq rfl)))))))))))))))))))))))))))))))))) (by decide) (Nat.le_of_ble_eq_true rfl) ?_
          refine ar_incl (z := 35) [some (.inr (.inr (some 45))), some (.inr (.inl _)), none, some (.inl 35), some (.inl 36)] rfl rfl (by decide) rfl ?_
          refine ar_go rfl ?_
          refine ar_ldI rfl rfl ?_
          refine ar_ldI rfl rfl ?_
          refine ar_if2f rfl (by decide) ?_
          refine ar_ldA rfl rfl ?_
          refine ar_ldI rfl rfl ?_
          refine ar_ldJ rfl rfl ?_
          refine ar_astJ rfl (hs_eq (hs_eq (hs_eq (hs_eq (hs_eq (hs_eq (hs_eq (hs_eq (hs_eq (hs_eq (hs_eq (hs_eq (hs_eq (hs_eq (hs_eq (hs_eq (hs_eq (hs_eq (hs_eq (hs_eq (hs_eq (hs_eq (hs_eq (hs_eq (hs_eq (hs_eq (hs_eq (hs_eq (hs_eq (hs_eq (hs_eq (hs_eq (hs_eq (hs_eq (hs_eq rfl))))))))))))))))))))))))))))))))))) (by decide) (Nat.le_of_ble_eq_true rfl) ?_
          refine ar_incl (z := 36) [some (.inr (.inr (some 45))), some (.inr (.inl _)), none, some (.inl 36), some (.inl 36)] rfl rfl (by decide) rfl ?_
          refine ar_go rfl ?_
          refine ar_ldI rfl rfl ?_
          refine ar_ldI rfl rfl ?_
          refine ar_if2t rfl (by decide) ?_
          refine ar_ret0 rfl ?_
          show aRun _ (aCall Mt _) _ 8 (_, [], _, _, _)
          refine ar_ldA rfl rfl ?_
          refine ar_get rfl (hs_ne (by decide) (hs_ne (by decide) (hs_ne (by decide) (hs_ne (by decide) (hs_ne (by decide) (hs_ne (by decide) (hs_ne (by decide) (hs_ne (by decide) (hs_ne (by decide) (hs_ne (by decide) (hs_ne (by decide) (hs_ne (by decide) (hs_ne (by decide) (hs_ne (by decide) (hs_ne (by decide) (hs_ne (by decide) (hs_ne (by decide) (hs_ne (by decide) (hs_ne (by decide) (hs_ne (by decide) (hs_ne (by decide) (hs_ne (by decide) (hs_ne (by decide) (hs_ne (by decide) (hs_ne (by decide) (hs_ne (by decide) (hs_ne (by decide) (hs_ne (by decide) (hs_ne (by decide) (hs_ne (by decide) (hs_ne (by decide) (hs_ne (by decide) (hs_ne (by decide) (hs_ne (by decide) (hs_ne (by decide) (hs_ne (by decide) rfl)))))))))))))))))))))))))))))))))))) rfl ?_
          refine ar_push rfl ?_
          refine ar_inl (mc := 0) (ms := 0) rfl rfl (Nat.le_of_ble_eq_true rfl) (Nat.le_of_ble_eq_true rfl) (by omega) (by omega) ?_
          refine ac_ink [some (.inr (.inr (some 46))), some (.inl (-1)), none, none] mt_307 (Nat.le_of_ble_eq_true rfl) rfl ?_
          refine ar_push rfl ?_
          refine ar_svIk [some (.inr (.inr (some 46))), some (.inl (-1)), some (.inl 0), none] rfl rfl ?_
          refine ar_ldA rfl rfl ?_
          refine ar_len rfl (hs_ne (by decide) (hs_ne (by decide) (hs_ne (by decide) (hs_ne (by decide) (hs_ne (by decide) (hs_ne (by decide) (hs_ne (by decide) (hs_ne (by decide) (hs_ne (by decide) (hs_ne (by decide) (hs_ne (by decide) (hs_ne (by decide) (hs_ne (by decide) (hs_ne (by decide) (hs_ne (by decide) (hs_ne (by decide) (hs_ne (by decide) (hs_ne (by decide) (hs_ne (by decide) (hs_ne (by decide) (hs_ne (by decide) (hs_ne (by decide) (hs_ne (by decide) (hs_ne (by decide) (hs_ne (by decide) (hs_ne (by decide) (hs_ne (by decide) (hs_ne (by decide) (hs_ne (by decide) (hs_ne (by decide) (hs_ne (by decide) (hs_ne (by decide) (hs_ne (by decide) (hs_ne (by decide) (hs_ne (by decide) (hs_ne (by decide) rfl)))))))))))))))))))))))))))))))))))) ?_
          refine ar_svIk [some (.inr (.inr (some 46))), some (.inl (-1)), some (.inl 0), some (.inl 12)] rfl rfl ?_
          refine ar_ldI rfl rfl ?_
          refine ar_ldI rfl rfl ?_
          refine ar_if2f rfl (by decide) ?_
          refine ar_ldA rfl rfl ?_
          refine ar_ldI rfl rfl ?_
          refine ar_ldI rfl rfl ?_
          refine ar_ast rfl (hs_ne (by decide) (hs_ne (by decide) (hs_ne (by decide) (hs_ne (by decide) (hs_ne (by decide) (hs_ne (by decide) (hs_ne (by decide) (hs_ne (by decide) (hs_ne (by decide) (hs_ne (by decide) (hs_ne (by decide) (hs_ne (by decide) (hs_ne (by decide) (hs_ne (by decide) (hs_ne (by decide) (hs_ne (by decide) (hs_ne (by decide) (hs_ne (by decide) (hs_ne (by decide) (hs_ne (by decide) (hs_ne (by decide) (hs_ne (by decide) (hs_ne (by decide) (hs_ne (by decide) (hs_ne (by decide) (hs_ne (by decide) (hs_ne (by decide) (hs_ne (by decide) (hs_ne (by decide) (hs_ne (by decide) (hs_ne (by decide) (hs_ne (by decide) (hs_ne (by decide) (hs_ne (by decide) (hs_ne (by decide) (hs_ne (by decide) rfl)))))))))))))))))))))))))))))))))))) (by decide) (Nat.le_of_ble_eq_true rfl) ?_
          refine ar_incl (z := 1) [some (.inr (.inr (some 46))), some (.inl (-1)), some (.inl 1), some (.inl 12)] rfl rfl (by decide) rfl ?_
          refine ar_go rfl ?_
          refine ar_ldI rfl rfl ?_
          refine ar_ldI rfl rfl ?_
          refine ar_if2f rfl (by decide) ?_
          refine ar_ldA rfl rfl ?_
          refine ar_ldI rfl rfl ?_
          refine ar_ldI rfl rfl ?_
          refine ar_ast rfl (hs_eq (hs_ne (by decide) (hs_ne (by decide) (hs_ne (by decide) (hs_ne (by decide) (hs_ne (by decide) (hs_ne (by decide) (hs_ne (by decide) (hs_ne (by decide) (hs_ne (by decide) (hs_ne (by decide) (hs_ne (by decide) (hs_ne (by decide) (hs_ne (by decide) (hs_ne (by decide) (hs_ne (by decide) (hs_ne (by decide) (hs_ne (by decide) (hs_ne (by decide) (hs_ne (by decide) (hs_ne (by decide) (hs_ne (by decide) (hs_ne (by decide) (hs_ne (by decide) (hs_ne (by decide) (hs_ne (by decide) (hs_ne (by decide) (hs_ne (by decide) (hs_ne (by decide) (hs_ne (by decide) (hs_ne (by decide) (hs_ne (by decide) (hs_ne (by decide) (hs_ne (by decide) (hs_ne (by decide) (hs_ne (by decide) (hs_ne (by decide) rfl))))))))))))))))))))))))))))))))))))) (by decide) (Nat.le_of_ble_eq_true rfl) ?_
          refine ar_incl (z := 2) [some (.inr (.inr (some 46))), some (.inl (-1)), some (.inl 2), some (.inl 12)] rfl rfl (by decide) rfl ?_
          refine ar_go rfl ?_
          refine ar_ldI rfl rfl ?_
          refine ar_ldI rfl rfl ?_
          refine ar_if2f rfl (by decide) ?_
          refine ar_ldA rfl rfl ?_
          refine ar_ldI rfl rfl ?_
          refine ar_ldI rfl rfl ?_
          refine ar_ast rfl (hs_eq (hs_eq (hs_ne (by decide) (hs_ne (by decide) (hs_ne (by decide) (hs_ne (by decide) (hs_ne (by decide) (hs_ne (by decide) (hs_ne (by decide) (hs_ne (by decide) (hs_ne (by decide) (hs_ne (by decide) (hs_ne (by decide) (hs_ne (by decide) (hs_ne (by decide) (hs_ne (by decide) (hs_ne (by decide) (hs_ne (by decide) (hs_ne (by decide) (hs_ne (by decide) (hs_ne (by decide) (hs_ne (by decide) (hs_ne (by decide) (hs_ne (by decide) (hs_ne (by decide) (hs_ne (by decide) (hs_ne (by decide) (hs_ne (by decide) (hs_ne (by decide) (hs_ne (by decide) (hs_ne (by decide) (hs_ne (by decide) (hs_ne (by decide) (hs_ne (by decide) (hs_ne (by decide) (hs_ne (by decide) (hs_ne (by decide) (hs_ne (by decide) rfl)))))))))))))))))))))))))))))))))))))) (by decide) (Nat.le_of_ble_eq_true rfl) ?_
          refine ar_incl (z := 3) [some (.inr (.inr (some 46))), some (.inl (-1)), some (.inl 3), some (.inl 12)] rfl rfl (by decide) rfl ?_
          refine ar_go rfl ?_
          refine ar_ldI rfl rfl ?_
          refine ar_ldI rfl rfl ?_
          refine ar_if2f rfl (by decide) ?_
          refine ar_ldA rfl rfl ?_
          refine ar_ldI rfl rfl ?_
          refine ar_ldI rfl rfl ?_
          refine ar_ast rfl (hs_eq (hs_eq (hs_eq (hs_ne (by decide) (hs_ne (by decide) (hs_ne (by decide) (hs_ne (by decide) (hs_ne (by decide) (hs_ne (by decide) (hs_ne (by decide) (hs_ne (by decide) (hs_ne (by decide) (hs_ne (by decide) (hs_ne (by decide) (hs_ne (by decide) (hs_ne (by decide) (hs_ne (by decide) (hs_ne (by decide) (hs_ne (by decide) (hs_ne (by decide) (hs_ne (by decide) (hs_ne (by decide) (hs_ne (by decide) (hs_ne (by decide) (hs_ne (by decide) (hs_ne (by decide) (hs_ne (by decide) (hs_ne (by decide) (hs_ne (by decide) (hs_ne (by decide) (hs_ne (by decide) (hs_ne (by decide) (hs_ne (by decide) (hs_ne (by decide) (hs_ne (by decide) (hs_ne (by decide) (hs_ne (by decide) (hs_ne (by decide) (hs_ne (by decide) rfl))))))))))))))))))))))))))))))))))))))) (by decide) (Nat.le_of_ble_eq_true rfl) ?_
          refine ar_incl (z := 4) [some (.inr (.inr (some 46))), some (.inl (-1)), some (.inl 4), some (.inl 12)] rfl rfl (by decide) rfl ?_
          refine ar_go rfl ?_
          refine ar_ldI rfl rfl ?_
          refine ar_ldI rfl rfl ?_
          refine ar_if2f rfl (by decide) ?_
          refine ar_ldA rfl rfl ?_
          refine ar_ldI rfl rfl ?_
          refine ar_ldI rfl rfl ?_
          refine ar_ast rfl (hs_eq (hs_eq (hs_eq (hs_eq (hs_ne (by decide) (hs_ne (by decide) (hs_ne (by decide) (hs_ne (by decide) (hs_ne (by decide) (hs_ne (by decide) (hs_ne (by decide) (hs_ne (by decide) (hs_ne (by decide) (hs_ne (by decide) (hs_ne (by decide) (hs_ne (by decide) (hs_ne (by decide) (hs_ne (by decide) (hs_ne (by decide) (hs_ne (by decide) (hs_ne (by decide) (hs_ne (by decide) (hs_ne (by decide) (hs_ne (by decide) (hs_ne (by decide) (hs_ne (by decide) (hs_ne (by decide) (hs_ne (by decide) (hs_ne (by decide) (hs_ne (by decide) (hs_ne (by decide) (hs_ne (by decide) (hs_ne (by decide) (hs_ne (by decide) (hs_ne (by decide) (hs_ne (by decide) (hs_ne (by decide) (hs_ne (by decide) (hs_ne (by decide) (hs_ne (by decide) rfl)))))))))))))))))))))))))))))))))))))))) (by decide) (Nat.le_of_ble_eq_true rfl) ?_
          refine ar_incl (z := 5) [some (.inr (.inr (some 46))), some (.inl (-1)), some (.inl 5), some (.inl 12)] rfl rfl (by decide) rfl ?_
          refine ar_go rfl ?_
          refine ar_ldI rfl rfl ?_
          refine ar_ldI rfl rfl ?_
          refine ar_if2f rfl (by decide) ?_
          refine ar_ldA rfl rfl ?_
          refine ar_ldI rfl rfl ?_
          refine ar_ldI rfl rfl ?_
          refine ar_ast rfl (hs_eq (hs_eq (hs_eq (hs_eq (hs_eq (hs_ne (by decide) (hs_ne (by decide) (hs_ne (by decide) (hs_ne (by decide) (hs_ne (by decide) (hs_ne (by decide) (hs_ne (by decide) (hs_ne (by decide) (hs_ne (by decide) (hs_ne (by decide) (hs_ne (by decide) (hs_ne (by decide) (hs_ne (by decide) (hs_ne (by decide) (hs_ne (by decide) (hs_ne (by decide) (hs_ne (by decide) (hs_ne (by decide) (hs_ne (by decide) (hs_ne (by decide) (hs_ne (by decide) (hs_ne (by decide) (hs_ne (by decide) (hs_ne (by decide) (hs_ne (by decide) (hs_ne (by decide) (hs_ne (by decide) (hs_ne (by decide) (hs_ne (by decide) (hs_ne (by decide) (hs_ne (by decide) (hs_ne (by decide) (hs_ne (by decide) (hs_ne (by decide) (hs_ne (by decide) (hs_ne (by decide) rfl))))))))))))))))))))))))))))))))))))))))) (by decide) (Nat.le_of_ble_eq_true rfl) ?_
          refine ar_incl (z := 6) [some (.inr (.inr (some 46))), some (.inl (-1)), some (.inl 6), some (.inl 12)] rfl rfl (by decide) rfl ?_
          refine ar_go rfl ?_
          refine ar_ldI rfl rfl ?_
          refine ar_ldI rfl rfl ?_
          refine ar_if2f rfl (by decide) ?_
          refine ar_ldA rfl rfl ?_
          refine ar_ldI rfl rfl ?_
          refine ar_ldI rfl rfl ?_
          refine ar_ast rfl (hs_eq (hs_eq (hs_eq (hs_eq (hs_eq (hs_eq (hs_ne (by decide) (hs_ne (by decide) (hs_ne (by decide) (hs_ne (by decide) (hs_ne (by decide) (hs_ne (by decide) (hs_ne (by decide) (hs_ne (by decide) (hs_ne (by decide) (hs_ne (by decide) (hs_ne (by decide) (hs_ne (by decide) (hs_ne (by decide) (hs_ne (by decide) (hs_ne (by decide) (hs_ne (by decide) (hs_ne (by decide) (hs_ne (by decide) (hs_ne (by decide) (hs_ne (by decide) (hs_ne (by decide) (hs_ne (by decide) (hs_ne (by decide) (hs_ne (by decide) (hs_ne (by decide) (hs_ne (by decide) (hs_ne (by decide) (hs_ne (by decide) (hs_ne (by decide) (hs_ne (by decide) (hs_ne (by decide) (hs_ne (by decide) (hs_ne (by decide) (hs_ne (by decide) (hs_ne (by decide) (hs_ne (by decide) rfl)))))))))))))))))))))))))))))))))))))))))) (by decide) (Nat.le_of_ble_eq_true rfl) ?_
          refine ar_incl (z := 7) [some (.inr (.inr (some 46))), some (.inl (-1)), some (.inl 7), some (.inl 12)] rfl rfl (by decide) rfl ?_
          refine ar_go rfl ?_
          refine ar_ldI rfl rfl ?_
          refine ar_ldI rfl rfl ?_
          refine ar_if2f rfl (by decide) ?_
          refine ar_ldA rfl rfl ?_
          refine ar_ldI rfl rfl ?_
          refine ar_ldI rfl rfl ?_
          refine ar_ast rfl (hs_eq (hs_eq (hs_eq (hs_eq (hs_eq (hs_eq (hs_eq (hs_ne (by decide) (hs_ne (by decide) (hs_ne (by decide) (hs_ne (by decide) (hs_ne (by decide) (hs_ne (by decide) (hs_ne (by decide) (hs_ne (by decide) (hs_ne (by decide) (hs_ne (by decide) (hs_ne (by decide) (hs_ne (by decide) (hs_ne (by decide) (hs_ne (by decide) (hs_ne (by decide) (hs_ne (by decide) (hs_ne (by decide) (hs_ne (by decide) (hs_ne (by decide) (hs_ne (by decide) (hs_ne (by decide) (hs_ne (by decide) (hs_ne (by decide) (hs_ne (by decide) (hs_ne (by decide) (hs_ne (by decide) (hs_ne (by decide) (hs_ne (by decide) (hs_ne (by decide) (hs_ne (by decide) (hs_ne (by decide) (hs_ne (by decide) (hs_ne (by decide) (hs_ne (by decide) (hs_ne (by decide) (hs_ne (by decide) rfl))))))))))))))))))))))))))))))))))))))))))) (by decide) (Nat.le_of_ble_eq_true rfl) ?_
          refine ar_incl (z := 8) [some (.inr (.inr (some 46))), some (.inl (-1)), some (.inl 8), some (.inl 12)] rfl rfl (by decide) rfl ?_
          refine ar_go rfl ?_
          refine ar_ldI rfl rfl ?_
          refine ar_ldI rfl rfl ?_
          refine ar_if2f rfl (by decide) ?_
          refine ar_ldA rfl rfl ?_
          refine ar_ldI rfl rfl ?_
          refine ar_ldI rfl rfl ?_
          refine ar_ast rfl (hs_eq (hs_eq (hs_eq (hs_eq (hs_eq (hs_eq (hs_eq (hs_eq (hs_ne (by decide) (hs_ne (by decide) (hs_ne (by decide) (hs_ne (by decide) (hs_ne (by decide) (hs_ne (by decide) (hs_ne (by decide) (hs_ne (by decide) (hs_ne (by decide) (hs_ne (by decide) (hs_ne (by decide) (hs_ne (by decide) (hs_ne (by decide) (hs_ne (by decide) (hs_ne (by decide) (hs_ne (by decide) (hs_ne (by decide) (hs_ne (by decide) (hs_ne (by decide) (hs_ne (by decide) (hs_ne (by decide) (hs_ne (by decide) (hs_ne (by decide) (hs_ne (by decide) (hs_ne (by decide) (hs_ne (by decide) (hs_ne (by decide) (hs_ne (by decide) (hs_ne (by decide) (hs_ne (by decide) (hs_ne (by decide) (hs_ne (by decide) (hs_ne (by decide) (hs_ne (by decide) (hs_ne (by decide) (hs_ne (by decide) rfl)))))))))))))))))))))))))))))))))))))))))))) (by decide) (Nat.le_of_ble_eq_true rfl) ?_
          refine ar_incl (z := 9) [some (.inr (.inr (some 46))), some (.inl (-1)), some (.inl 9), some (.inl 12)] rfl rfl (by decide) rfl ?_
          refine ar_go rfl ?_
          refine ar_ldI rfl rfl ?_
          refine ar_ldI rfl rfl ?_
          refine ar_if2f rfl (by decide) ?_
          refine ar_ldA rfl rfl ?_
          refine ar_ldI rfl rfl ?_
          refine ar_ldI rfl rfl ?_
          refine ar_ast rfl (hs_eq (hs_eq (hs_eq (hs_eq (hs_eq (hs_eq (hs_eq (hs_eq (hs_eq (hs_ne (by decide) (hs_ne (by decide) (hs_ne (by decide) (hs_ne (by decide) (hs_ne (by decide) (hs_ne (by decide) (hs_ne (by decide) (hs_ne (by decide) (hs_ne (by decide) (hs_ne (by decide) (hs_ne (by decide) (hs_ne (by decide) (hs_ne (by decide) (hs_ne (by decide) (hs_ne (by decide) (hs_ne (by decide) (hs_ne (by decide) (hs_ne (by decide) (hs_ne (by decide) (hs_ne (by decide) (hs_ne (by decide) (hs_ne (by decide) (hs_ne (by decide) (hs_ne (by decide) (hs_ne (by decide) (hs_ne (by decide) (hs_ne (by decide) (hs_ne (by decide) (hs_ne (by decide) (hs_ne (by decide) (hs_ne (by decide) (hs_ne (by decide) (hs_ne (by decide) (hs_ne (by decide) (hs_ne (by decide) (hs_ne (by decide) rfl))))))))))))))))))))))))))))))))))))))))))))) (by decide) (Nat.le_of_ble_eq_true rfl) ?_
          refine ar_incl (z := 10) [some (.inr (.inr (some 46))), some (.inl (-1)), some (.inl 10), some (.inl 12)] rfl rfl (by decide) rfl ?_
          refine ar_go rfl ?_
          refine ar_ldI rfl rfl ?_
          refine ar_ldI rfl rfl ?_
          refine ar_if2f rfl (by decide) ?_
          refine ar_ldA rfl rfl ?_
          refine ar_ldI rfl rfl ?_
          refine ar_ldI rfl rfl ?_
          refine ar_ast rfl (hs_eq (hs_eq (hs_eq (hs_eq (hs_eq (hs_eq (hs_eq (hs_eq (hs_eq (hs_eq (hs_ne (by decide) (hs_ne (by decide) (hs_ne (by decide) (hs_ne (by decide) (hs_ne (by decide) (hs_ne (by decide) (hs_ne (by decide) (hs_ne (by decide) (hs_ne (by decide) (hs_ne (by decide) (hs_ne (by decide) (hs_ne (by decide) (hs_ne (by decide) (hs_ne (by decide) (hs_ne (by decide) (hs_ne (by decide) (hs_ne (by decide) (hs_ne (by decide) (hs_ne (by decide) (hs_ne (by decide) (hs_ne (by decide) (hs_ne (by decide) (hs_ne (by decide) (hs_ne (by decide) (hs_ne (by decide) (hs_ne (by decide) (hs_ne (by decide) (hs_ne (by decide) (hs_ne (by decide) (hs_ne (by decide) (hs_ne (by decide) (hs_ne (by decide) (hs_ne (by decide) (hs_ne (by decide) (hs_ne (by decide) (hs_ne (by decide) rfl)))))))))))))))))))))))))))))))))))))))))))))) (by decide) (Nat.le_of_ble_eq_true rfl) ?_
          refine ar_incl (z := 11) [some (.inr (.inr (some 46))), some (.inl (-1)), some (.inl 11), some (.inl 12)] rfl rfl (by decide) rfl ?_
          refine ar_go rfl ?_
          refine ar_ldI rfl rfl ?_
          refine ar_ldI rfl rfl ?_
          refine ar_if2f rfl (by decide) ?_
          refine ar_ldA rfl rfl ?_
          refine ar_ldI rfl rfl ?_
          refine ar_ldI rfl rfl ?_
          refine ar_ast rfl (hs_eq (hs_eq (hs_eq (hs_eq (hs_eq (hs_eq (hs_eq (hs_eq (hs_eq (hs_eq (hs_eq (hs_ne (by decide) (hs_ne (by decide) (hs_ne (by decide) (hs_ne (by decide) (hs_ne (by decide) (hs_ne (by decide) (hs_ne (by decide) (hs_ne (by decide) (hs_ne (by decide) (hs_ne (by decide) (hs_ne (by decide) (hs_ne (by decide) (hs_ne (by decide) (hs_ne (by decide) (hs_ne (by decide) (hs_ne (by decide) (hs_ne (by decide) (hs_ne (by decide) (hs_ne (by decide) (hs_ne (by decide) (hs_ne (by decide) (hs_ne (by decide) (hs_ne (by decide) (hs_ne (by decide) (hs_ne (by decide) (hs_ne (by decide) (hs_ne (by decide) (hs_ne (by decide) (hs_ne (by decide) (hs_ne (by decide) (hs_ne (by decide) (hs_ne (by decide) (hs_ne (by decide) (hs_ne (by decide) (hs_ne (by decide) (hs_ne (by decide) rfl))))))))))))))))))))))))))))))))))))))))))))))) (by decide) (Nat.le_of_ble_eq_true rfl) ?_
          refine ar_incl (z := 12) [some (.inr (.inr (some 46))), some (.inl (-1)), some (.inl 12), some (.inl 12)] rfl rfl (by decide) rfl ?_
          refine ar_go rfl ?_
          refine ar_ldI rfl rfl ?_
          refine ar_ldI rfl rfl ?_
          refine ar_if2t rfl (by decide) ?_
          refine ar_ret0 rfl ?_
          show aRun _ (aCall Mt _) _ 16 (_, [], _, _, _)
          refine ar_ret0 rfl ?_
          show aRun _ (aCall Mt _) _ 50 (_, [], _, _, _)
          refine ar_ldA rfl rfl ?_
          refine ar_get rfl (hs_ne (by decide) (hs_ne (by decide) (hs_ne (by decide) (hs_ne (by decide) (hs_ne (by decide) (hs_ne (by decide) (hs_ne (by decide) (hs_ne (by decide) (hs_ne (by decide) (hs_ne (by decide) (hs_ne (by decide) (hs_ne (by decide) (hs_ne (by decide) (hs_ne (by decide) (hs_ne (by decide) (hs_ne (by decide) (hs_ne (by decide) (hs_ne (by decide) (hs_ne (by decide) (hs_ne (by decide) (hs_ne (by decide) (hs_ne (by decide) (hs_ne (by decide) (hs_ne (by decide) (hs_ne (by decide) (hs_ne (by decide) (hs_ne (by decide) (hs_ne (by decide) (hs_ne (by decide) (hs_ne (by decide) (hs_ne (by decide) (hs_ne (by decide) (hs_ne (by decide) (hs_ne (by decide) (hs_ne (by decide) (hs_ne (by decide) (hs_ne (by decide) (hs_ne (by decide) (hs_ne (by decide) (hs_ne (by decide) (hs_ne (by decide) (hs_ne (by decide) (hs_ne (by decide) (hs_ne (by decide) (hs_ne (by decide) (hs_ne (by decide) (hs_ne (by decide) (hs_ne (by decide) rfl)))))))))))))))))))))))))))))))))))))))))))))))) rfl ?_
          refine ar_ldI rfl rfl ?_
          refine ar_ldI rfl rfl ?_
          refine ar_ldI rfl rfl ?_
          refine ar_inl (mc := 0) (ms := 0) rfl (rcv_of (hs_ne (by decide) (hs_ne (by decide) (hs_ne (by decide) (hs_ne (by decide) (hs_ne (by decide) (hs_ne (by decide) (hs_ne (by decide) (hs_ne (by decide) (hs_ne (by decide) (hs_ne (by decide) (hs_ne (by decide) (hs_ne (by decide) (hs_ne (by decide) (hs_ne (by decide) (hs_ne (by decide) (hs_ne (by decide) (hs_ne (by decide) (hs_ne (by decide) (hs_ne (by decide) (hs_ne (by decide) (hs_ne (by decide) (hs_ne (by decide) (hs_ne (by decide) (hs_ne (by decide) (hs_ne (by decide) (hs_ne (by decide) (hs_ne (by decide) (hs_ne (by decide) (hs_ne (by decide) (hs_ne (by decide) (hs_ne (by decide) (hs_ne (by decide) (hs_ne (by decide) (hs_ne (by decide) (hs_ne (by decide) (hs_ne (by decide) (hs_ne (by decide) (hs_ne (by decide) (hs_ne (by decide) (hs_ne (by decide) (hs_ne (by decide) (hs_ne (by decide) (hs_ne (by decide) (hs_ne (by decide) (hs_ne (by decide) (hs_ne (by decide) (hs_ne (by decide) (hs_ne (by decide) rfl))))))))))))))))))))))))))))))))))))))))))))))))) (Nat.le_of_ble_eq_true rfl) (Nat.le_of_ble_eq_true rfl) (by omega) (by omega) ?_
          refine ac_ink [some (.inr (.inr (some 41))), some (.inl _), some (.inl _), some (.inl _)] mt_72 (Nat.le_of_ble_eq_true rfl) rfl ?_
          refine ar_ldA rfl rfl ?_
          refine ar_get rfl (hs_ne (by decide) (hs_ne (by decide) (hs_ne (by decide) (hs_ne (by decide) (hs_ne (by decide) (hs_ne (by decide) (hs_ne (by decide) (hs_ne (by decide) (hs_ne (by decide) (hs_ne (by decide) (hs_ne (by decide) (hs_ne (by decide) (hs_ne (by decide) (hs_ne (by decide) (hs_ne (by decide) (hs_ne (by decide) (hs_ne (by decide) (hs_ne (by decide) (hs_ne (by decide) (hs_ne (by decide) (hs_ne (by decide) (hs_ne (by decide) (hs_ne (by decide) (hs_ne (by decide) (hs_ne (by decide) (hs_ne (by decide) (hs_ne (by decide) (hs_ne (by decide) (hs_ne (by decide) (hs_ne (by decide) (hs_ne (by decide) (hs_ne (by decide) (hs_ne (by decide) (hs_ne (by decide) (hs_ne (by decide) (hs_ne (by decide) (hs_ne (by decide) (hs_ne (by decide) (hs_ne (by decide) (hs_ne (by decide) (hs_ne (by decide) (hs_ne (by decide) (hs_ne (by decide) (hs_ne (by decide) (hs_ne (by decide) (hs_ne (by decide) (hs_ne (by decide) (hs_ne (by decide) rfl)))))))))))))))))))))))))))))))))))))))))))))))) rfl ?_
          refine ar_push rfl ?_
          refine ar_if2t rfl (by decide) ?_
          refine ar_ldA rfl rfl ?_
          refine ar_get rfl (hs_ne (by decide) (hs_ne (by decide) (hs_ne (by decide) (hs_ne (by decide) (hs_ne (by decide) (hs_ne (by decide) (hs_ne (by decide) (hs_ne (by decide) (hs_ne (by decide) (hs_ne (by decide) (hs_ne (by decide) (hs_ne (by decide) (hs_ne (by decide) (hs_ne (by decide) (hs_ne (by decide) (hs_ne (by decide) (hs_ne (by decide) (hs_ne (by decide) (hs_ne (by decide) (hs_ne (by decide) (hs_ne (by decide) (hs_ne (by decide) (hs_ne (by decide) (hs_ne (by decide) (hs_ne (by decide) (hs_ne (by decide) (hs_ne (by decide) (hs_ne (by decide) (hs_ne (by decide) (hs_ne (by decide) (hs_ne (by decide) (hs_ne (by decide) (hs_ne (by decide) (hs_ne (by decide) (hs_ne (by decide) (hs_ne (by decide) (hs_ne (by decide) (hs_ne (by decide) (hs_ne (by decide) (hs_ne (by decide) (hs_ne (by decide) (hs_ne (by decide) (hs_ne (by decide) (hs_ne (by decide) (hs_ne (by decide) (hs_ne (by decide) (hs_ne (by decide) (hs_ne (by decide) rfl)))))))))))))))))))))))))))))))))))))))))))))))) rfl ?_
          refine ar_ldA rfl rfl ?_
          refine ar_get rfl (hs_ne (by decide) (hs_ne (by decide) (hs_ne (by decide) (hs_ne (by decide) (hs_ne (by decide) (hs_ne (by decide) (hs_ne (by decide) (hs_ne (by decide) (hs_ne (by decide) (hs_ne (by decide) (hs_ne (by decide) (hs_ne (by decide) (hs_ne (by decide) (hs_ne (by decide) (hs_ne (by decide) (hs_ne (by decide) (hs_ne (by decide) (hs_ne (by decide) (hs_ne (by decide) (hs_ne (by decide) (hs_ne (by decide) (hs_ne (by decide) (hs_ne (by decide) (hs_ne (by decide) (hs_ne (by decide) (hs_ne (by decide) (hs_ne (by decide) (hs_ne (by decide) (hs_ne (by decide) (hs_ne (by decide) (hs_ne (by decide) (hs_ne (by decide) (hs_ne (by decide) (hs_ne (by decide) (hs_ne (by decide) (hs_ne (by decide) (hs_ne (by decide) (hs_ne (by decide) (hs_ne (by decide) (hs_ne (by decide) (hs_ne (by decide) (hs_ne (by decide) (hs_ne (by decide) (hs_ne (by decide) (hs_ne (by decide) (hs_ne (by decide) (hs_ne (by decide) (hs_ne (by decide) rfl)))))))))))))))))))))))))))))))))))))))))))))))) rfl ?_
          refine ar_ldI rfl rfl ?_
          refine ar_ast rfl (hs_ne (by decide) (hs_ne (by decide) (hs_ne (by decide) (hs_ne (by decide) (hs_ne (by decide) (hs_ne (by decide) (hs_ne (by decide) (hs_ne (by decide) (hs_ne (by decide) (hs_ne (by decide) (hs_ne (by decide) (hs_ne (by decide) (hs_ne (by decide) (hs_ne (by decide) (hs_ne (by decide) (hs_ne (by decide) (hs_ne (by decide) (hs_ne (by decide) (hs_ne (by decide) (hs_ne (by decide) (hs_ne (by decide) (hs_ne (by decide) (hs_ne (by decide) (hs_ne (by decide) (hs_ne (by decide) (hs_ne (by decide) (hs_ne (by decide) (hs_ne (by decide) (hs_ne (by decide) (hs_ne (by decide) (hs_ne (by decide) (hs_ne (by decide) (hs_ne (by decide) (hs_ne (by decide) (hs_ne (by decide) (hs_ne (by decide) (hs_ne (by decide) (hs_ne (by decide) (hs_ne (by decide) (hs_ne (by decide) (hs_ne (by decide) (hs_ne (by decide) (hs_ne (by decide) (hs_ne (by decide) (hs_ne (by decide) (hs_ne (by decide) (hs_ne (by decide) (hs_ne (by decide) rfl)))))))))))))))))))))))))))))))))))))))))))))))) (by decide) (Nat.le_of_ble_eq_true rfl) ?_
          refine ar_ldA rfl rfl ?_
          refine ar_get rfl (hs_ne (by decide) (hs_ne (by decide) (hs_ne (by decide) (hs_ne (by decide) (hs_ne (by decide) (hs_ne (by decide) (hs_ne (by decide) (hs_ne (by decide) (hs_ne (by decide) (hs_ne (by decide) (hs_ne (by decide) (hs_ne (by decide) (hs_ne (by decide) (hs_ne (by decide) (hs_ne (by decide) (hs_ne (by decide) (hs_ne (by decide) (hs_ne (by decide) (hs_ne (by decide) (hs_ne (by decide) (hs_ne (by decide) (hs_ne (by decide) (hs_ne (by decide) (hs_ne (by decide) (hs_ne (by decide) (hs_ne (by decide) (hs_ne (by decide) (hs_ne (by decide) (hs_ne (by decide) (hs_ne (by decide) (hs_ne (by decide) (hs_ne (by decide) (hs_ne (by decide) (hs_ne (by decide) (hs_ne (by decide) (hs_ne (by decide) (hs_ne (by decide) (hs_ne (by decide) (hs_ne (by decide) (hs_ne (by decide) (hs_ne (by decide) (hs_ne (by decide) (hs_ne (by decide) (hs_ne (by decide) (hs_ne (by decide) (hs_ne (by decide) (hs_ne (by decide) (hs_ne (by decide) (hs_ne (by decide) rfl))))))))))))))))))))))))))))))))))))))))))))))))) rfl ?_
          refine ar_ldA rfl rfl ?_
          refine ar_get rfl (hs_ne (by decide) (hs_ne (by decide) (hs_ne (by decide) (hs_ne (by decide) (hs_ne (by decide) (hs_ne (by decide) (hs_ne (by decide) (hs_ne (by decide) (hs_ne (by decide) (hs_ne (by decide) (hs_ne (by decide) (hs_ne (by decide) (hs_ne (by decide) (hs_ne (by decide) (hs_ne (by decide) (hs_ne (by decide) (hs_ne (by decide) (hs_ne (by decide) (hs_ne (by decide) (hs_ne (by decide) (hs_ne (by decide) (hs_ne (by decide) (hs_ne (by decide) (hs_ne (by decide) (hs_ne (by decide) (hs_ne (by decide) (hs_ne (by decide) (hs_ne (by decide) (hs_ne (by decide) (hs_ne (by decide) (hs_ne (by decide) (hs_ne (by decide) (hs_ne (by decide) (hs_ne (by decide) (hs_ne (by decide) (hs_ne (by decide) (hs_ne (by decide) (hs_ne (by decide) (hs_ne (by decide) (hs_ne (by decide) (hs_ne (by decide) (hs_ne (by decide) (hs_ne (by decide) (hs_ne (by decide) (hs_ne (by decide) (hs_ne (by decide) (hs_ne (by decide) (hs_ne (by decide) (hs_ne (by decide) rfl))))))))))))))))))))))))))))))))))))))))))))))))) rfl ?_
          refine ar_ldI rfl rfl ?_
          refine ar_ast rfl (hs_ne (by decide) (hs_ne (by decide) (hs_ne (by decide) (hs_ne (by decide) (hs_ne (by decide) (hs_ne (by decide) (hs_ne (by decide) (hs_ne (by decide) (hs_ne (by decide) (hs_ne (by decide) (hs_ne (by decide) (hs_ne (by decide) (hs_ne (by decide) (hs_ne (by decide) (hs_ne (by decide) (hs_ne (by decide) (hs_ne (by decide) (hs_ne (by decide) (hs_ne (by decide) (hs_ne (by decide) (hs_ne (by decide) (hs_ne (by decide) (hs_ne (by decide) (hs_ne (by decide) (hs_ne (by decide) (hs_ne (by decide) (hs_ne (by decide) (hs_ne (by decide) (hs_ne (by decide) (hs_ne (by decide) (hs_ne (by decide) (hs_ne (by decide) (hs_ne (by decide) (hs_ne (by decide) (hs_ne (by decide) (hs_ne (by decide) (hs_ne (by decide) (hs_ne (by decide) (hs_ne (by decide) (hs_ne (by decide) (hs_ne (by decide) (hs_ne (by decide) (hs_ne (by decide) (hs_ne (by decide) (hs_ne (by decide) (hs_ne (by decide) (hs_ne (by decide) (hs_ne (by decide) (hs_ne (by decide) rfl))))))))))))))))))))))))))))))))))))))))))))))))) (by decide) (Nat.le_of_ble_eq_true rfl) ?_
          refine ar_ldA rfl rfl ?_
          refine ar_get rfl (hs_ne (by decide) (hs_ne (by decide) (hs_ne (by decide) (hs_ne (by decide) (hs_ne (by decide) (hs_ne (by decide) (hs_ne (by decide) (hs_ne (by decide) (hs_ne (by decide) (hs_ne (by decide) (hs_ne (by decide) (hs_ne (by decide) (hs_ne (by decide) (hs_ne (by decide) (hs_ne (by decide) (hs_ne (by decide) (hs_ne (by decide) (hs_ne (by decide) (hs_ne (by decide) (hs_ne (by decide) (hs_ne (by decide) (hs_ne (by decide) (hs_ne (by decide) (hs_ne (by decide) (hs_ne (by decide) (hs_ne (by decide) (hs_ne (by decide) (hs_ne (by decide) (hs_ne (by decide) (hs_ne (by decide) (hs_ne (by decide) (hs_ne (by decide) (hs_ne (by decide) (hs_ne (by decide) (hs_ne (by decide) (hs_ne (by decide) (hs_ne (by decide) (hs_ne (by decide) (hs_ne (by decide) (hs_ne (by decide) (hs_ne (by decide) (hs_ne (by decide) (hs_ne (by decide) (hs_ne (by decide) (hs_ne (by decide) (hs_ne (by decide) (hs_ne (by decide) (hs_ne (by decide) (hs_ne (by decide) (hs_ne (by decide) rfl)))))))))))))))))))))))))))))))))))))))))))))))))) rfl ?_
          refine ar_ldA rfl rfl ?_
          refine ar_get rfl (hs_ne (by decide) (hs_ne (by decide) (hs_ne (by decide) (hs_ne (by decide) (hs_ne (by decide) (hs_ne (by decide) (hs_ne (by decide) (hs_ne (by decide) (hs_ne (by decide) (hs_ne (by decide) (hs_ne (by decide) (hs_ne (by decide) (hs_ne (by decide) (hs_ne (by decide) (hs_ne (by decide) (hs_ne (by decide) (hs_ne (by decide) (hs_ne (by decide) (hs_ne (by decide) (hs_ne (by decide) (hs_ne (by decide) (hs_ne (by decide) (hs_ne (by decide) (hs_ne (by decide) (hs_ne (by decide) (hs_ne (by decide) (hs_ne (by decide) (hs_ne (by decide) (hs_ne (by decide) (hs_ne (by decide) (hs_ne (by decide) (hs_ne (by decide) (hs_ne (by decide) (hs_ne (by decide) (hs_ne (by decide) (hs_ne (by decide) (hs_ne (by decide) (hs_ne (by decide) (hs_ne (by decide) (hs_ne (by decide) (hs_ne (by decide) (hs_ne (by decide) (hs_ne (by decide) (hs_ne (by decide) (hs_ne (by decide) (hs_ne (by decide) (hs_ne (by decide) (hs_ne (by decide) (hs_ne (by decide) (hs_ne (by decide) rfl)))))))))))))))))))))))))))))))))))))))))))))))))) rfl ?_
          refine ar_ldI rfl rfl ?_
          refine ar_ast rfl (hs_ne (by decide) (hs_ne (by decide) (hs_ne (by decide) (hs_ne (by decide) (hs_ne (by decide) (hs_ne (by decide) (hs_ne (by decide) (hs_ne (by decide) (hs_ne (by decide) (hs_ne (by decide) (hs_ne (by decide) (hs_ne (by decide) (hs_ne (by decide) (hs_ne (by decide) (hs_ne (by decide) (hs_ne (by decide) (hs_ne (by decide) (hs_ne (by decide) (hs_ne (by decide) (hs_ne (by decide) (hs_ne (by decide) (hs_ne (by decide) (hs_ne (by decide) (hs_ne (by decide) (hs_ne (by decide) (hs_ne (by decide) (hs_ne (by decide) (hs_ne (by decide) (hs_ne (by decide) (hs_ne (by decide) (hs_ne (by decide) (hs_ne (by decide) (hs_ne (by decide) (hs_ne (by decide) (hs_ne (by decide) (hs_ne (by decide) (hs_ne (by decide) (hs_ne (by decide) (hs_ne (by decide) (hs_ne (by decide) (hs_ne (by decide) (hs_ne (by decide) (hs_ne (by decide) (hs_ne (by decide) (hs_ne (by decide) (hs_ne (by decide) (hs_ne (by decide) (hs_ne (by decide) (hs_ne (by decide) (hs_ne (by decide) rfl)))))))))))))))))))))))))))))))))))))))))))))))))) (by decide) (Nat.le_of_ble_eq_true rfl) ?_
          refine ar_ldA rfl rfl ?_
          refine ar_dup rfl rfl ?_
          refine ar_get rfl (hs_ne (by decide) (hs_ne (by decide) (hs_ne (by decide) (hs_ne (by decide) (hs_ne (by decide) (hs_ne (by decide) (hs_ne (by decide) (hs_ne (by decide) (hs_ne (by decide) (hs_ne (by decide) (hs_ne (by decide) (hs_ne (by decide) (hs_ne (by decide) (hs_ne (by decide) (hs_ne (by decide) (hs_ne (by decide) (hs_ne (by decide) (hs_ne (by decide) (hs_ne (by decide) (hs_ne (by decide) (hs_ne (by decide) (hs_ne (by decide) (hs_ne (by decide) (hs_ne (by decide) (hs_ne (by decide) (hs_ne (by decide) (hs_ne (by decide) (hs_ne (by decide) (hs_ne (by decide) (hs_ne (by decide) (hs_ne (by decide) (hs_ne (by decide) (hs_ne (by decide) (hs_ne (by decide) (hs_ne (by decide) (hs_ne (by decide) (hs_ne (by decide) (hs_ne (by decide) (hs_ne (by decide) (hs_ne (by decide) (hs_ne (by decide) (hs_ne (by decide) (hs_ne (by decide) (hs_ne (by decide) (hs_ne (by decide) (hs_ne (by decide) (hs_ne (by decide) (hs_ne (by decide) (hs_ne (by decide) (hs_ne (by decide) (hs_ne (by decide) rfl))))))))))))))))))))))))))))))))))))))))))))))))))) rfl ?_
          refine ar_push rfl ?_
          refine ar_bink (z := 1) rfl (by decide) ?_
          refine ar_put rfl (hs_ne (by decide) (hs_ne (by decide) (hs_ne (by decide) (hs_ne (by decide) (hs_ne (by decide) (hs_ne (by decide) (hs_ne (by decide) (hs_ne (by decide) (hs_ne (by decide) (hs_ne (by decide) (hs_ne (by decide) (hs_ne (by decide) (hs_ne (by decide) (hs_ne (by decide) (hs_ne (by decide) (hs_ne (by decide) (hs_ne (by decide) (hs_ne (by decide) (hs_ne (by decide) (hs_ne (by decide) (hs_ne (by decide) (hs_ne (by decide) (hs_ne (by decide) (hs_ne (by decide) (hs_ne (by decide) (hs_ne (by decide) (hs_ne (by decide) (hs_ne (by decide) (hs_ne (by decide) (hs_ne (by decide) (hs_ne (by decide) (hs_ne (by decide) (hs_ne (by decide) (hs_ne (by decide) (hs_ne (by decide) (hs_ne (by decide) (hs_ne (by decide) (hs_ne (by decide) (hs_ne (by decide) (hs_ne (by decide) (hs_ne (by decide) (hs_ne (by decide) (hs_ne (by decide) (hs_ne (by decide) (hs_ne (by decide) (hs_ne (by decide) (hs_ne (by decide) (hs_ne (by decide) (hs_ne (by decide) (hs_ne (by decide) (hs_ne (by decide) rfl))))))))))))))))))))))))))))))))))))))))))))))))))) (Nat.le_of_ble_eq_true rfl) rfl ?_
          refine ar_ldA rfl rfl ?_
          refine ar_get rfl (hs_eq (hs_ne (by decide) (hs_ne (by decide) (hs_ne (by decide) (hs_ne (by decide) (hs_ne (by decide) (hs_ne (by decide) (hs_ne (by decide) (hs_ne (by decide) (hs_ne (by decide) (hs_ne (by decide) (hs_ne (by decide) (hs_ne (by decide) (hs_ne (by decide) (hs_ne (by decide) (hs_ne (by decide) (hs_ne (by decide) (hs_ne (by decide) (hs_ne (by decide) (hs_ne (by decide) (hs_ne (by decide) (hs_ne (by decide) (hs_ne (by decide) (hs_ne (by decide) (hs_ne (by decide) (hs_ne (by decide) (hs_ne (by decide) (hs_ne (by decide) (hs_ne (by decide) (hs_ne (by decide) (hs_ne (by decide) (hs_ne (by decide) (hs_ne (by decide) (hs_ne (by decide) (hs_ne (by decide) (hs_ne (by decide) (hs_ne (by decide) (hs_ne (by decide) (hs_ne (by decide) (hs_ne (by decide) (hs_ne (by decide) (hs_ne (by decide) (hs_ne (by decide) (hs_ne (by decide) (hs_ne (by decide) (hs_ne (by decide) (hs_ne (by decide) (hs_ne (by decide) (hs_ne (by decide) (hs_ne (by decide) (hs_ne (by decide) (hs_ne (by decide) rfl)))))))))))))))))))))))))))))))))))))))))))))))))))) rfl ?_
          refine ar_ret rfl rfl ?_
          show aRun _ (aCall Mt _) _ 60 (_, [_], _, _, _)
          refine ar_ret rfl rfl ?_
          refine ⟨_, 0, 0, _, rfl, Nat.zero_le _, Nat.zero_le _, (hs_ne (by decide) (hs_ne (by decide) (hs_ne (by decide) (hs_ne (by decide) (hs_ne (by decide) (hs_ne (by decide) (hs_ne (by decide) (hs_ne (by decide) (hs_ne (by decide) (hs_ne (by decide) (hs_ne (by decide) (hs_ne (by decide) (hs_ne (by decide) (hs_ne (by decide) (hs_ne (by decide) (hs_ne (by decide) (hs_ne (by decide) (hs_ne (by decide) (hs_ne (by decide) (hs_ne (by decide) (hs_ne (by decide) (hs_ne (by decide) (hs_ne (by decide) (hs_ne (by decide) (hs_ne (by decide) (hs_ne (by decide) (hs_ne (by decide) (hs_ne (by decide) (hs_ne (by decide) (hs_ne (by decide) (hs_ne (by decide) (hs_ne (by decide) (hs_ne (by decide) (hs_ne (by decide) (hs_ne (by decide) (hs_ne (by decide) (hs_ne (by decide) (hs_ne (by decide) (hs_ne (by decide) (hs_ne (by decide) (hs_ne (by decide) (hs_ne (by decide) (hs_ne (by decide) (hs_ne (by decide) (hs_ne (by decide) (hs_ne (by decide) (hs_ne (by decide) (hs_ne (by decide) (hs_ne (by decide) (hs_ne (by decide) (hs_ne (by decide) (hs_ne (by decide) rfl)))))))))))))))))))))))))))))))))))))))))))))))))))), ?_⟩
          refine rgen ((((((((((((((((((((((((((((((((((((((((((((((((((((rFr_F.sets (by decide)).sets (by decide)).sets (by decide)).sets (by decide)).sets (by decide)).sets (by decide)).sets (by decide)).sets (by decide)).sets (by decide)).sets (by decide)).sets (by decide)).sets (by decide)).sets (by decide)).sets (by decide)).sets (by decide)).sets (by decide)).sets (by decide)).sets (by decide)).sets (by decide)).sets (by decide)).sets (by decide)).sets (by decide)).sets (by decide)).sets (by decide)).sets (by decide)).sets (by decide)).sets (by decide)).sets (by decide)).sets (by decide)).sets (by decide)).sets (by decide)).sets (by decide)).sets (by decide)).sets (by decide)).sets (by decide)).sets (by decide)).sets (by decide)).sets (by decide)).sets (by decide)).sets (by decide)).sets (by decide)).sets (by decide)).sets (by decide)).sets (by decide)).sets (by decide)).sets (by decide)).sets (by decide)).sets (by decide)).sets (by decide)).sets (by decide)).sets (by decide)).sets (by decide)) (fun g hr => ?_)
          refine ac_ink [some (.inr (.inr (some 69))), some (.inl _), some (.inl _), some (.inl _)] mt_232 (Nat.le_of_ble_eq_true rfl) rfl ?_
          refine ar_ldI rfl rfl ?_
          refine ar_inl (mc := 0) (ms := 0) rfl rfl (Nat.le_of_ble_eq_true rfl) (Nat.le_of_ble_eq_true rfl) (by omega) (by omega) ?_
          refine ac_ink [some (.inl _)] mt_190 (Nat.le_of_ble_eq_true rfl) rfl ?_
          refine ar_ldI rfl rfl ?_
          refine ar_push rfl ?_
          refine ar_push rfl ?_
          refine ar_callv rfl rfl (Nat.le_of_ble_eq_true rfl) (Nat.le_of_ble_eq_true rfl) rfl (sp_in _ _ _ _ _) ?_
          refine ar_ret rfl (bi_ret _) ?_
          show aRun _ (aCall Mt _) _ 4 (_, [_], _, _, _)
          refine ar_if1f rfl (bi_e0f c1) ?_
          refine ar_ldI rfl rfl ?_
          refine ar_inl (mc := 0) (ms := 0) rfl rfl (Nat.le_of_ble_eq_true rfl) (Nat.le_of_ble_eq_true rfl) (by omega) (by omega) ?_
          refine ac_ink [some (.inl _)] mt_189 (Nat.le_of_ble_eq_true rfl) rfl ?_
          refine ar_ldI rfl rfl ?_
          refine ar_push rfl ?_
          refine ar_push rfl ?_
          refine ar_callv rfl rfl (Nat.le_of_ble_eq_true rfl) (Nat.le_of_ble_eq_true rfl) rfl (sp_in _ _ _ _ _) ?_
          refine ar_ret rfl (bi_ret _) ?_
          show aRun _ (aCall Mt _) _ 11 (_, [_], _, _, _)
          refine ar_if1f rfl (bi_e0f c2) ?_
          refine ar_ldI rfl rfl ?_
          refine ar_inl (mc := 0) (ms := 0) rfl rfl (Nat.le_of_ble_eq_true rfl) (Nat.le_of_ble_eq_true rfl) (by omega) (by omega) ?_
          refine ac_ink [some (.inl _)] mt_189 (Nat.le_of_ble_eq_true rfl) rfl ?_
          refine ar_ldI rfl rfl ?_
          refine ar_push rfl ?_
          refine ar_push rfl ?_
          refine ar_callv rfl rfl (Nat.le_of_ble_eq_true rfl) (Nat.le_of_ble_eq_true rfl) rfl (sp_in _ _ _ _ _) ?_
          refine ar_ret rfl (bi_ret _) ?_
          show aRun _ (aCall Mt _) _ 18 (_, [_], _, _, _)
          refine ar_if1f rfl (bi_e0f c3) ?_
          refine ar_ldI rfl rfl ?_
          refine ar_ldI rfl rfl ?_
          refine ar_if2t rfl (lt_f (le_t c4)) ?_
          refine ar_ldA rfl rfl ?_
          refine ar_get rfl (hr.at 69 (by decide) (by decide) rfl) rfl ?_
          refine ar_push rfl ?_
          refine ar_if2t rfl (by decide) ?_
          refine ar_ldA rfl rfl ?_
          refine ar_get rfl (hr.at 69 (by decide) (by decide) rfl) rfl ?_
          refine ar_ldA rfl rfl ?_
          refine ar_get rfl (hr.at 69 (by decide) (by decide) rfl) rfl ?_
          refine ar_ldI rfl rfl ?_
          refine ar_ast rfl (hr.at 93 (by decide) (by decide) rfl) (by decide) (Nat.le_of_ble_eq_true rfl) ?_
          refine ar_ldA rfl rfl ?_
          refine ar_get rfl (hs_ne (by decide) (hr.at 69 (by decide) (by decide) rfl)) rfl ?_
          refine ar_ldA rfl rfl ?_
          refine ar_get rfl (hs_ne (by decide) (hr.at 69 (by decide) (by decide) rfl)) rfl ?_
          refine ar_ldI rfl rfl ?_
          refine ar_ast rfl (hs_ne (by decide) (hr.at 94 (by decide) (by decide) rfl)) (by decide) (Nat.le_of_ble_eq_true rfl) ?_
          refine ar_ldA rfl rfl ?_
          refine ar_get rfl (hs_ne (by decide) (hs_ne (by decide) (hr.at 69 (by decide) (by decide) rfl))) rfl ?_
          refine ar_ldA rfl rfl ?_
          refine ar_get rfl (hs_ne (by decide) (hs_ne (by decide) (hr.at 69 (by decide) (by decide) rfl))) rfl ?_
          refine ar_ldI rfl rfl ?_
          refine ar_ast rfl (hs_ne (by decide) (hs_ne (by decide) (hr.at 95 (by decide) (by decide) rfl))) (by decide) (Nat.le_of_ble_eq_true rfl) ?_
          refine ar_ldA rfl rfl ?_
          refine ar_dup rfl rfl ?_
          refine ar_get rfl (hs_ne (by decide) (hs_ne (by decide) (hs_ne (by decide) (hr.at 69 (by decide) (by decide) rfl)))) rfl ?_
          refine ar_push rfl ?_
          refine ar_bink (z := 1) rfl (by decide) ?_
          refine ar_put rfl (hs_ne (by decide) (hs_ne (by decide) (hs_ne (by decide) (hr.at 69 (by decide) (by decide) rfl)))) (Nat.le_of_ble_eq_true rfl) rfl ?_
          refine ar_ldA rfl rfl ?_
          refine ar_get rfl (hs_eq (hs_ne (by decide) (hs_ne (by decide) (hs_ne (by decide) (hr.at 69 (by decide) (by decide) rfl))))) rfl ?_
          refine ar_ret rfl rfl ?_
          exact ⟨rfl, hJ _ _ _⟩
        · refine ar_push rfl ?_
          refine ar_ret rfl rfl ?_
          refine ⟨_, 0, 0, _, rfl, Nat.zero_le _, Nat.zero_le _, rfl, ?_⟩
          refine rgen rFr_F (fun g hr => ?_)
          refine ac_ink [some (.inr (.inr (some 69))), some (.inl _), some (.inl _), some (.inl _)] mt_232 (Nat.le_of_ble_eq_true rfl) rfl ?_
          refine ar_ldI rfl rfl ?_
          refine ar_inl (mc := 0) (ms := 0) rfl rfl (Nat.le_of_ble_eq_true rfl) (Nat.le_of_ble_eq_true rfl) (by omega) (by omega) ?_
          refine ac_ink [some (.inl _)] mt_190 (Nat.le_of_ble_eq_true rfl) rfl ?_
          refine ar_ldI rfl rfl ?_
          refine ar_push rfl ?_
          refine ar_push rfl ?_
          refine ar_callv rfl rfl (Nat.le_of_ble_eq_true rfl) (Nat.le_of_ble_eq_true rfl) rfl (sp_in _ _ _ _ _) ?_
          refine ar_ret rfl (bi_ret _) ?_
          show aRun _ (aCall Mt _) _ 4 (_, [_], _, _, _)
          refine ar_if1f rfl (bi_e0f c1) ?_
          refine ar_ldI rfl rfl ?_
          refine ar_inl (mc := 0) (ms := 0) rfl rfl (Nat.le_of_ble_eq_true rfl) (Nat.le_of_ble_eq_true rfl) (by omega) (by omega) ?_
          refine ac_ink [some (.inl _)] mt_189 (Nat.le_of_ble_eq_true rfl) rfl ?_
          refine ar_ldI rfl rfl ?_
          refine ar_push rfl ?_
          refine ar_push rfl ?_
          refine ar_callv rfl rfl (Nat.le_of_ble_eq_true rfl) (Nat.le_of_ble_eq_true rfl) rfl (sp_in _ _ _ _ _) ?_
          refine ar_ret rfl (bi_ret _) ?_
          show aRun _ (aCall Mt _) _ 11 (_, [_], _, _, _)
          refine ar_if1f rfl (bi_e0f c2) ?_
          refine ar_ldI rfl rfl ?_
          refine ar_inl (mc := 0) (ms := 0) rfl rfl (Nat.le_of_ble_eq_true rfl) (Nat.le_of_ble_eq_true rfl) (by omega) (by omega) ?_
          refine ac_ink [some (.inl _)] mt_189 (Nat.le_of_ble_eq_true rfl) rfl ?_
          refine ar_ldI rfl rfl ?_
          refine ar_push rfl ?_
          refine ar_push rfl ?_
          refine ar_callv rfl rfl (Nat.le_of_ble_eq_true rfl) (Nat.le_of_ble_eq_true rfl) rfl (sp_in _ _ _ _ _) ?_
          refine ar_ret rfl (bi_ret _) ?_
          show aRun _ (aCall Mt _) _ 18 (_, [_], _, _, _)
          refine ar_if1f rfl (bi_e0f c3) ?_
          refine ar_ldI rfl rfl ?_
          refine ar_ldI rfl rfl ?_
          refine ar_if2f rfl (lt_t (le_f c4)) ?_
          refine ar_push rfl ?_
          refine ar_ret rfl rfl ?_
          exact ⟨rfl, hJ _ _ _⟩

set_option maxRecDepth 20000 in
set_option maxHeartbeats 4000000 in
theorem p1_0 (x1 : Int32) (x2 : Int32) (J : aH → Nat → Nat → Prop) (hJ : ∀ h a b, J h a b) (kc ks : Nat) (hkc : 1000 ≤ kc) (hks : 100000 ≤ ks) : aPairI 0 69 124 191 [.inl x1, .inl x2] J hF kc ks := by
  refine ⟨0, 0, _, by omega, by omega, rfl, ?_⟩
  refine ac_ink [some (.inr (.inr (some 0))), some (.inl _), some (.inl _)] mt_124 (Nat.le_of_ble_eq_true rfl) rfl ?_
  refine ar_ldI rfl rfl ?_
  refine ar_push rfl ?_
  refine ar_push rfl ?_
  refine ar_callv rfl rfl (Nat.le_of_ble_eq_true rfl) (Nat.le_of_ble_eq_true rfl) rfl (sp_within _ _ _ _ _) ?_
  refine ar_eqB rfl (fun c1 => ?_) (fun c1 => ?_)
  · refine ar_push rfl ?_
    refine ar_ret rfl rfl ?_
    refine ⟨_, 0, 0, _, rfl, Nat.zero_le _, Nat.zero_le _, rfl, ?_⟩
    refine rgen rFr_F (fun g hr => ?_)
    refine ac_ink [some (.inr (.inr (some 69))), some (.inl _), some (.inl _), none] mt_191 (Nat.le_of_ble_eq_true rfl) rfl ?_
    refine ar_ldI rfl rfl ?_
    refine ar_push rfl ?_
    refine ar_push rfl ?_
    refine ar_callv rfl rfl (Nat.le_of_ble_eq_true rfl) (Nat.le_of_ble_eq_true rfl) rfl (sp_in _ _ _ _ _) ?_
    refine ar_if1t rfl (bi_e0t c1) ?_
    refine ar_push rfl ?_
    refine ar_ret rfl rfl ?_
    exact ⟨rfl, hJ _ _ _⟩
  · refine ar_ldI rfl rfl ?_
    refine ar_push rfl ?_
    refine ar_push rfl ?_
    refine ar_callv rfl rfl (Nat.le_of_ble_eq_true rfl) (Nat.le_of_ble_eq_true rfl) rfl (sp_within _ _ _ _ _) ?_
    refine ar_neB rfl (fun c2 => ?_) (fun c2 => ?_)
    · refine ar_ldA rfl rfl ?_
      refine ar_get rfl rfl rfl ?_
      refine ar_get rfl rfl rfl ?_
      refine ar_push rfl ?_
      refine ar_if2t rfl (by decide) ?_
      refine ar_ldA rfl rfl ?_
      refine ar_get rfl rfl rfl ?_
      refine ar_inl (mc := 0) (ms := 0) rfl (rcv_of rfl) (Nat.le_of_ble_eq_true rfl) (Nat.le_of_ble_eq_true rfl) (by omega) (by omega) ?_
      refine ac_ink [some (.inr (.inr (some 8)))] mt_48 (Nat.le_of_ble_eq_true rfl) rfl ?_
      refine ar_ldA rfl rfl ?_
      refine ar_dup rfl rfl ?_
      refine ar_get rfl rfl rfl ?_
      refine ar_push rfl ?_
      refine ar_bink (z := 2) rfl (by decide) ?_
      refine ar_put rfl rfl (Nat.le_of_ble_eq_true rfl) rfl ?_
      refine ar_ret0 rfl ?_
      show aRun _ (aCall Mt _) _ 45 (_, [], _, _, _)
      refine ar_ldA rfl rfl ?_
      refine ar_get rfl (hs_ne (by decide) rfl) rfl ?_
      refine ar_inl (mc := 0) (ms := 0) rfl (rcv_of (hs_ne (by decide) rfl)) (Nat.le_of_ble_eq_true rfl) (Nat.le_of_ble_eq_true rfl) (by omega) (by omega) ?_
      refine ac_ink [some (.inr (.inr (some 41)))] mt_74 (Nat.le_of_ble_eq_true rfl) rfl ?_
      refine ar_ldA rfl rfl ?_
      refine ar_get rfl (hs_ne (by decide) rfl) rfl ?_
      refine ar_push rfl ?_
      refine ar_inl (mc := 0) (ms := 0) rfl rfl (Nat.le_of_ble_eq_true rfl) (Nat.le_of_ble_eq_true rfl) (by omega) (by omega) ?_
      refine ac_ink [some (.inr (.inr (some 45))), some (.inr (.inl _)), none, none, none] mt_306 (Nat.le_of_ble_eq_true rfl) rfl ?_
      refine ar_push rfl ?_
      refine ar_svIk [some (.inr (.inr (some 45))), some (.inr (.inl _)), none, some (.inl 0), none] rfl rfl ?_
      refine ar_ldA rfl rfl ?_
      refine ar_len rfl (hs_ne (by decide) rfl) ?_
      refine ar_svIk [some (.inr (.inr (some 45))), some (.inr (.inl _)), none, some (.inl 0), some (.inl 36)] rfl rfl ?_
      refine ar_ldI rfl rfl ?_
      refine ar_ldI rfl rfl ?_
      refine ar_if2f rfl (by decide) ?_
      refine ar_ldA rfl rfl ?_
      refine ar_ldI rfl rfl ?_
      refine ar_ldJ rfl rfl ?_
      refine ar_astJ rfl (hs_ne (by decide) rfl) (by decide) (Nat.le_of_ble_eq_true rfl) ?_
      refine ar_incl (z := 1) [some (.inr (.inr (some 45))), some (.inr (.inl _)), none, some (.inl 1), some (.inl 36)] rfl rfl (by decide) rfl ?_
      refine ar_go rfl ?_
      refine ar_ldI rfl rfl ?_
      refine ar_ldI rfl rfl ?_
      refine ar_if2f rfl (by decide) ?_
      refine ar_ldA rfl rfl ?_
      refine ar_ldI rfl rfl ?_
      refine ar_ldJ rfl rfl ?_
      refine ar_astJ rfl (hs_eq (hs_ne (by decide) rfl)) (by decide) (Nat.le_of_ble_eq_true rfl) ?_
      refine ar_incl (z := 2) [some (.inr (.inr (some 45))), some (.inr (.inl _)), none, some (.inl 2), some (.inl 36)] rfl rfl (by decide) rfl ?_
      refine ar_go rfl ?_
      refine ar_ldI rfl rfl ?_
      refine ar_ldI rfl rfl ?_
      refine ar_if2f rfl (by decide) ?_
      refine ar_ldA rfl rfl ?_
      refine ar_ldI rfl rfl ?_
      refine ar_ldJ rfl rfl ?_
      refine ar_astJ rfl (hs_eq (hs_eq (hs_ne (by decide) rfl))) (by decide) (Nat.le_of_ble_eq_true rfl) ?_
      refine ar_incl (z := 3) [some (.inr (.inr (some 45))), some (.inr (.inl _)), none, some (.inl 3), some (.inl 36)] rfl rfl (by decide) rfl ?_
      refine ar_go rfl ?_
      refine ar_ldI rfl rfl ?_
      refine ar_ldI rfl rfl ?_
      refine ar_if2f rfl (by decide) ?_
      refine ar_ldA rfl rfl ?_
      refine ar_ldI rfl rfl ?_
      refine ar_ldJ rfl rfl ?_
      refine ar_astJ rfl (hs_eq (hs_eq (hs_eq (hs_ne (by decide) rfl)))) (by decide) (Nat.le_of_ble_eq_true rfl) ?_
      refine ar_incl (z := 4) [some (.inr (.inr (some 45))), some (.inr (.inl _)), none, some (.inl 4), some (.inl 36)] rfl rfl (by decide) rfl ?_
      refine ar_go rfl ?_
      refine ar_ldI rfl rfl ?_
      refine ar_ldI rfl rfl ?_
      refine ar_if2f rfl (by decide) ?_
      refine ar_ldA rfl rfl ?_
      refine ar_ldI rfl rfl ?_
      refine ar_ldJ rfl rfl ?_
      refine ar_astJ rfl (hs_eq (hs_eq (hs_eq (hs_eq (hs_ne (by decide) rfl))))) (by decide) (Nat.le_of_ble_eq_true rfl) ?_
      refine ar_incl (z := 5) [some (.inr (.inr (some 45))), some (.inr (.inl _)), none, some (.inl 5), some (.inl 36)] rfl rfl (by decide) rfl ?_
      refine ar_go rfl ?_
      refine ar_ldI rfl rfl ?_
      refine ar_ldI rfl rfl ?_
      refine ar_if2f rfl (by decide) ?_
      refine ar_ldA rfl rfl ?_
      refine ar_ldI rfl rfl ?_
      refine ar_ldJ rfl rfl ?_
      refine ar_astJ rfl (hs_eq (hs_eq (hs_eq (hs_eq (hs_eq (hs_ne (by decide) rfl)))))) (by decide) (Nat.le_of_ble_eq_true rfl) ?_
      refine ar_incl (z := 6) [some (.inr (.inr (some 45))), some (.inr (.inl _)), none, some (.inl 6), some (.inl 36)] rfl rfl (by decide) rfl ?_
      refine ar_go rfl ?_
      refine ar_ldI rfl rfl ?_
      refine ar_ldI rfl rfl ?_
      refine ar_if2f rfl (by decide) ?_
      refine ar_ldA rfl rfl ?_
      refine ar_ldI rfl rfl ?_
      refine ar_ldJ rfl rfl ?_
      refine ar_astJ rfl (hs_eq (hs_eq (hs_eq (hs_eq (hs_eq (hs_eq (hs_ne (by decide) rfl))))))) (by decide) (Nat.le_of_ble_eq_true rfl) ?_
      refine ar_incl (z := 7) [some (.inr (.inr (some 45))), some (.inr (.inl _)), none, some (.inl 7), some (.inl 36)] rfl rfl (by decide) rfl ?_
      refine ar_go rfl ?_
      refine ar_ldI rfl rfl ?_
      refine ar_ldI rfl rfl ?_
      refine ar_if2f rfl (by decide) ?_
      refine ar_ldA rfl rfl ?_
      refine ar_ldI rfl rfl ?_
      refine ar_ldJ rfl rfl ?_
      refine ar_astJ rfl (hs_eq (hs_eq (hs_eq (hs_eq (hs_eq (hs_eq (hs_eq (hs_ne (by decide) rfl)))))))) (by decide) (Nat.le_of_ble_eq_true rfl) ?_
      refine ar_incl (z := 8) [some (.inr (.inr (some 45))), some (.inr (.inl _)), none, some (.inl 8), some (.inl 36)] rfl rfl (by decide) rfl ?_
      refine ar_go rfl ?_
      refine ar_ldI rfl rfl ?_
      refine ar_ldI rfl rfl ?_
      refine ar_if2f rfl (by decide) ?_
      refine ar_ldA rfl rfl ?_
      refine ar_ldI rfl rfl ?_
      refine ar_ldJ rfl rfl ?_
      refine ar_astJ rfl (hs_eq (hs_eq (hs_eq (hs_eq (hs_eq (hs_eq (hs_eq (hs_eq (hs_ne (by decide) rfl))))))))) (by decide) (Nat.le_of_ble_eq_true rfl) ?_
      refine ar_incl (z := 9) [some (.inr (.inr (some 45))), some (.inr (.inl _)), none, some (.inl 9), some (.inl 36)] rfl rfl (by decide) rfl ?_
      refine ar_go rfl ?_
      refine ar_ldI rfl rfl ?_
      refine ar_ldI rfl rfl ?_
      refine ar_if2f rfl (by decide) ?_
      refine ar_ldA rfl rfl ?_
      refine ar_ldI rfl rfl ?_
      refine ar_ldJ rfl rfl ?_
      refine ar_astJ rfl (hs_eq (hs_eq (hs_eq (hs_eq (hs_eq (hs_eq (hs_eq (hs_eq (hs_eq (hs_ne (by decide) rfl)))))))))) (by decide) (Nat.le_of_ble_eq_true rfl) ?_
      refine ar_incl (z := 10) [some (.inr (.inr (some 45))), some (.inr (.inl _)), none, some (.inl 10), some (.inl 36)] rfl rfl (by decide) rfl ?_
      refine ar_go rfl ?_
      refine ar_ldI rfl rfl ?_
      refine ar_ldI rfl rfl ?_
      refine ar_if2f rfl (by decide) ?_
      refine ar_ldA rfl rfl ?_
      refine ar_ldI rfl rfl ?_
      refine ar_ldJ rfl rfl ?_
      refine ar_astJ rfl (hs_eq (hs_eq (hs_eq (hs_eq (hs_eq (hs_eq (hs_eq (hs_eq (hs_eq (hs_eq (hs_ne (by decide) rfl))))))))))) (by decide) (Nat.le_of_ble_eq_true rfl) ?_
      refine ar_incl (z := 11) [some (.inr (.inr (some 45))), some (.inr (.inl _)), none, some (.inl 11), some (.inl 36)] rfl rfl (by decide) rfl ?_
      refine ar_go rfl ?_
      refine ar_ldI rfl rfl ?_
      refine ar_ldI rfl rfl ?_
      refine ar_if2f rfl (by decide) ?_
      refine ar_ldA rfl rfl ?_
      refine ar_ldI rfl rfl ?_
      refine ar_ldJ rfl rfl ?_
      refine ar_astJ rfl (hs_eq (hs_eq (hs_eq (hs_eq (hs_eq (hs_eq (hs_eq (hs_eq (hs_eq (hs_eq (hs_eq (hs_ne (by decide) rfl)))))))))))) (by decide) (Nat.le_of_ble_eq_true rfl) ?_
      refine ar_incl (z := 12) [some (.inr (.inr (some 45))), some (.inr (.inl _)), none, some (.inl 12), some (.inl 36)] rfl rfl (by decide) rfl ?_
      refine ar_go rfl ?_
      refine ar_ldI rfl rfl ?_
      refine ar_ldI rfl rfl ?_
      refine ar_if2f rfl (by decide) ?_
      refine ar_ldA rfl rfl ?_
      refine ar_ldI rfl rfl ?_
      refine ar_ldJ rfl rfl ?_
      refine ar_astJ rfl (hs_eq (hs_eq (hs_eq (hs_eq (hs_eq (hs_eq (hs_eq (hs_eq (hs_eq (hs_eq (hs_eq (hs_eq (hs_ne (by decide) rfl))))))))))))) (by decide) (Nat.le_of_ble_eq_true rfl) ?_
      refine ar_incl (z := 13) [some (.inr (.inr (some 45))), some (.inr (.inl _)), none, some (.inl 13), some (.inl 36)] rfl rfl (by decide) rfl ?_
      refine ar_go rfl ?_
      refine ar_ldI rfl rfl ?_
      refine ar_ldI rfl rfl ?_
      refine ar_if2f rfl (by decide) ?_
      refine ar_ldA rfl rfl ?_
      refine ar_ldI rfl rfl ?_
      refine ar_ldJ rfl rfl ?_
      refine ar_astJ rfl (hs_eq (hs_eq (hs_eq (hs_eq (hs_eq (hs_eq (hs_eq (hs_eq (hs_eq (hs_eq (hs_eq (hs_eq (hs_eq (hs_ne (by decide) rfl)))))))))))))) (by decide) (Nat.le_of_ble_eq_true rfl) ?_
      refine ar_incl (z := 14) [some (.inr (.inr (some 45))), some (.inr (.inl _)), none, some (.inl 14), some (.inl 36)] rfl rfl (by decide) rfl ?_
      refine ar_go rfl ?_
      refine ar_ldI rfl rfl ?_
      refine ar_ldI rfl rfl ?_
      refine ar_if2f rfl (by decide) ?_
      refine ar_ldA rfl rfl ?_
      refine ar_ldI rfl rfl ?_
      refine ar_ldJ rfl rfl ?_
      refine ar_astJ rfl (hs_eq (hs_eq (hs_eq (hs_eq (hs_eq (hs_eq (hs_eq (hs_eq (hs_eq (hs_eq (hs_eq (hs_eq (hs_eq (hs_eq (hs_ne (by decide) rfl))))))))))))))) (by decide) (Nat.le_of_ble_eq_true rfl) ?_
      refine ar_incl (z := 15) [some (.inr (.inr (some 45))), some (.inr (.inl _)), none, some (.inl 15), some (.inl 36)] rfl rfl (by decide) rfl ?_
      refine ar_go rfl ?_
      refine ar_ldI rfl rfl ?_
      refine ar_ldI rfl rfl ?_
      refine ar_if2f rfl (by decide) ?_
      refine ar_ldA rfl rfl ?_
      refine ar_ldI rfl rfl ?_
      refine ar_ldJ rfl rfl ?_
      refine ar_astJ rfl (hs_eq (hs_eq (hs_eq (hs_eq (hs_eq (hs_eq (hs_eq (hs_eq (hs_eq (hs_eq (hs_eq (hs_eq (hs_eq (hs_eq (hs_eq (hs_ne (by decide) rfl)))))))))))))))) (by decide) (Nat.le_of_ble_eq_true rfl) ?_
      refine ar_incl (z := 16) [some (.inr (.inr (some 45))), some (.inr (.inl _)), none, some (.inl 16), some (.inl 36)] rfl rfl (by decide) rfl ?_
      refine ar_go rfl ?_
      refine ar_ldI rfl rfl ?_
      refine ar_ldI rfl rfl ?_
      refine ar_if2f rfl (by decide) ?_
      refine ar_ldA rfl rfl ?_
      refine ar_ldI rfl rfl ?_
      refine ar_ldJ rfl rfl ?_
      refine ar_astJ rfl (hs_eq (hs_eq (hs_eq (hs_eq (hs_eq (hs_eq (hs_eq (hs_eq (hs_eq (hs_eq (hs_eq (hs_eq (hs_eq (hs_eq (hs_eq (hs_eq (hs_ne (by decide) rfl))))))))))))))))) (by decide) (Nat.le_of_ble_eq_true rfl) ?_
      refine ar_incl (z := 17) [some (.inr (.inr (some 45))), some (.inr (.inl _)), none, some (.inl 17), some (.inl 36)] rfl rfl (by decide) rfl ?_
      refine ar_go rfl ?_
      refine ar_ldI rfl rfl ?_
      refine ar_ldI rfl rfl ?_
      refine ar_if2f rfl (by decide) ?_
      refine ar_ldA rfl rfl ?_
      refine ar_ldI rfl rfl ?_
      refine ar_ldJ rfl rfl ?_
      refine ar_astJ rfl (hs_eq (hs_eq (hs_eq (hs_eq (hs_eq (hs_eq (hs_eq (hs_eq (hs_eq (hs_eq (hs_eq (hs_eq (hs_eq (hs_eq (hs_eq (hs_eq (hs_eq (hs_ne (by decide) rfl)))))))))))))))))) (by decide) (Nat.le_of_ble_eq_true rfl) ?_
      refine ar_incl (z := 18) [some (.inr (.inr (some 45))), some (.inr (.inl _)), none, some (.inl 18), some (.inl 36)] rfl rfl (by decide) rfl ?_
      refine ar_go rfl ?_
      refine ar_ldI rfl rfl ?_
      refine ar_ldI rfl rfl ?_
      refine ar_if2f rfl (by decide) ?_
      refine ar_ldA rfl rfl ?_
      refine ar_ldI rfl rfl ?_
      refine ar_ldJ rfl rfl ?_
      refine ar_astJ rfl (hs_eq (hs_eq (hs_eq (hs_eq (hs_eq (hs_eq (hs_eq (hs_eq (hs_eq (hs_eq (hs_eq (hs_eq (hs_eq (hs_eq (hs_eq (hs_eq (hs_eq (hs_eq (hs_ne (by decide) rfl))))))))))))))))))) (by decide) (Nat.le_of_ble_eq_true rfl) ?_
      refine ar_incl (z := 19) [some (.inr (.inr (some 45))), some (.inr (.inl _)), none, some (.inl 19), some (.inl 36)] rfl rfl (by decide) rfl ?_
      refine ar_go rfl ?_
      refine ar_ldI rfl rfl ?_
      refine ar_ldI rfl rfl ?_
      refine ar_if2f rfl (by decide) ?_
      refine ar_ldA rfl rfl ?_
      refine ar_ldI rfl rfl ?_
      refine ar_ldJ rfl rfl ?_
      refine ar_astJ rfl (hs_eq (hs_eq (hs_eq (hs_eq (hs_eq (hs_eq (hs_eq (hs_eq (hs_eq (hs_eq (hs_eq (hs_eq (hs_eq (hs_eq (hs_eq (hs_eq (hs_eq (hs_eq (hs_eq (hs_ne (by decide) rfl)))))))))))))))))))) (by decide) (Nat.le_of_ble_eq_true rfl) ?_
      refine ar_incl (z := 20) [some (.inr (.inr (some 45))), some (.inr (.inl _)), none, some (.inl 20), some (.inl 36)] rfl rfl (by decide) rfl ?_
      refine ar_go rfl ?_
      refine ar_ldI rfl rfl ?_
      refine ar_ldI rfl rfl ?_
      refine ar_if2f rfl (by decide) ?_
      refine ar_ldA rfl rfl ?_
      refine ar_ldI rfl rfl ?_
      refine ar_ldJ rfl rfl ?_
      refine ar_astJ rfl (hs_eq (hs_eq (hs_eq (hs_eq (hs_eq (hs_eq (hs_eq (hs_eq (hs_eq (hs_eq (hs_eq (hs_eq (hs_eq (hs_eq (hs_eq (hs_eq (hs_eq (hs_eq (hs_eq (hs_eq (hs_ne (by decide) rfl))))))))))))))))))))) (by decide) (Nat.le_of_ble_eq_true rfl) ?_
      refine ar_incl (z := 21) [some (.inr (.inr (some 45))), some (.inr (.inl _)), none, some (.inl 21), some (.inl 36)] rfl rfl (by decide) rfl ?_
      refine ar_go rfl ?_
      refine ar_ldI rfl rfl ?_
      refine ar_ldI rfl rfl ?_
      refine ar_if2f rfl (by decide) ?_
      refine ar_ldA rfl rfl ?_
      refine ar_ldI rfl rfl ?_
      refine ar_ldJ rfl rfl ?_
      refine ar_astJ rfl (hs_eq (hs_eq (hs_eq (hs_eq (hs_eq (hs_eq (hs_eq (hs_eq (hs_eq (hs_eq (hs_eq (hs_eq (hs_eq (hs_eq (hs_eq (hs_eq (hs_eq (hs_eq (hs_eq (hs_eq (hs_eq (hs_ne (by decide) rfl)))))))))))))))))))))) (by decide) (Nat.le_of_ble_eq_true rfl) ?_
      refine ar_incl (z := 22) [some (.inr (.inr (some 45))), some (.inr (.inl _)), none, some (.inl 22), some (.inl 36)] rfl rfl (by decide) rfl ?_
      refine ar_go rfl ?_
      refine ar_ldI rfl rfl ?_
      refine ar_ldI rfl rfl ?_
      refine ar_if2f rfl (by decide) ?_
      refine ar_ldA rfl rfl ?_
      refine ar_ldI rfl rfl ?_
      refine ar_ldJ rfl rfl ?_
      refine ar_astJ rfl (hs_eq (hs_eq (hs_eq (hs_eq (hs_eq (hs_eq (hs_eq (hs_eq (hs_eq (hs_eq (hs_eq (hs_eq (hs_eq (hs_eq (hs_eq (hs_eq (hs_eq (hs_eq (hs_eq (hs_eq (hs_eq (hs_eq (hs_ne (by decide) rfl))))))))))))))))))))))) (by decide) (Nat.le_of_ble_eq_true rfl) ?_
      refine ar_incl (z := 23) [some (.inr (.inr (some 45))), some (.inr (.inl _)), none, some (.inl 23), some (.inl 36)] rfl rfl (by decide) rfl ?_
      refine ar_go rfl ?_
      refine ar_ldI rfl rfl ?_
      refine ar_ldI rfl rfl ?_
      refine ar_if2f rfl (by decide) ?_
      refine ar_ldA rfl rfl ?_
      refine ar_ldI rfl rfl ?_
      refine ar_ldJ rfl rfl ?_
      refine ar_astJ rfl (hs_eq (hs_eq (hs_eq (hs_eq (hs_eq (hs_eq (hs_eq (hs_eq (hs_eq (hs_eq (hs_eq (hs_eq (hs_eq (hs_eq (hs_eq (hs_eq (hs_eq (hs_eq (hs_eq (hs_eq (hs_eq (hs_eq (hs_eq (hs_ne (by decide) rfl)))))))))))))))))))))))) (by decide) (Nat.le_of_ble_eq_true rfl) ?_
      refine ar_incl (z := 24) [some (.inr (.inr (some 45))), some (.inr (.inl _)), none, some (.inl 24), some (.inl 36)] rfl rfl (by decide) rfl ?_
      refine ar_go rfl ?_
      refine ar_ldI rfl rfl ?_
      refine ar_ldI rfl rfl ?_
      refine ar_if2f rfl (by decide) ?_
      refine ar_ldA rfl rfl ?_
      refine ar_ldI rfl rfl ?_
      refine ar_ldJ rfl rfl ?_
      refine ar_astJ rfl (hs_eq (hs_eq (hs_eq (hs_eq (hs_eq (hs_eq (hs_eq (hs_eq (hs_eq (hs_eq (hs_eq (hs_eq (hs_eq (hs_eq (hs_eq (hs_eq (hs_eq (hs_eq (hs_eq (hs_eq (hs_eq (hs_eq (hs_eq (hs_eq (hs_ne (by decide) rfl))))))))))))))))))))))))) (by decide) (Nat.le_of_ble_eq_true rfl) ?_
      refine ar_incl (z := 25) [some (.inr (.inr (some 45))), some (.inr (.inl _)), none, some (.inl 25), some (.inl 36)] rfl rfl (by decide) rfl ?_
      refine ar_go rfl ?_
      refine ar_ldI rfl rfl ?_
      refine ar_ldI rfl rfl ?_
      refine ar_if2f rfl (by decide) ?_
      refine ar_ldA rfl rfl ?_
      refine ar_ldI rfl rfl ?_
      refine ar_ldJ rfl rfl ?_
      refine ar_astJ rfl (hs_eq (hs_eq (hs_eq (hs_eq (hs_eq (hs_eq (hs_eq (hs_eq (hs_eq (hs_eq (hs_eq (hs_eq (hs_eq (hs_eq (hs_eq (hs_eq (hs_eq (hs_eq (hs_eq (hs_eq (hs_eq (hs_eq (hs_eq (hs_eq (hs_eq (hs_ne (by decide) rfl)))))))))))))))))))))))))) (by decide) (Nat.le_of_ble_eq_true rfl) ?_
      refine ar_incl (z := 26) [some (.inr (.inr (some 45))), some (.inr (.inl _)), none, some (.inl 26), some (.inl 36)] rfl rfl (by decide) rfl ?_
      refine ar_go rfl ?_
      refine ar_ldI rfl rfl ?_
      refine ar_ldI rfl rfl ?_
      refine ar_if2f rfl (by decide) ?_
      refine ar_ldA rfl rfl ?_
      refine ar_ldI rfl rfl ?_
      refine ar_ldJ rfl rfl ?_
      refine ar_astJ rfl (hs_eq (hs_eq (hs_eq (hs_eq (hs_eq (hs_eq (hs_eq (hs_eq (hs_eq (hs_eq (hs_eq (hs_eq (hs_eq (hs_eq (hs_eq (hs_eq (hs_eq (hs_eq (hs_eq (hs_eq (hs_eq (hs_eq (hs_eq (hs_eq (hs_eq (hs_eq (hs_ne (by decide) rfl))))))))))))))))))))))))))) (by decide) (Nat.le_of_ble_eq_true rfl) ?_
      refine ar_incl (z := 27) [some (.inr (.inr (some 45))), some (.inr (.inl _)), none, some (.inl 27), some (.inl 36)] rfl rfl (by decide) rfl ?_
      refine ar_go rfl ?_
      refine ar_ldI rfl rfl ?_
      refine ar_ldI rfl rfl ?_
      refine ar_if2f rfl (by decide) ?_
      refine ar_ldA rfl rfl ?_
      refine ar_ldI rfl rfl ?_
      refine ar_ldJ rfl rfl ?_
      refine ar_astJ rfl (hs_eq (hs_eq (hs_eq (hs_eq (hs_eq (hs_eq (hs_eq (hs_eq (hs_eq (hs_eq (hs_eq (hs_eq (hs_eq (hs_eq (hs_eq (hs_eq (hs_eq (hs_eq (hs_eq (hs_eq (hs_eq (hs_eq (hs_eq (hs_eq (hs_eq (hs_eq (hs_eq (hs_ne (by decide) rfl)))))))))))))))))))))))))))) (by decide) (Nat.le_of_ble_eq_true rfl) ?_
      refine ar_incl (z := 28) [some (.inr (.inr (some 45))), some (.inr (.inl _)), none, some (.inl 28), some (.inl 36)] rfl rfl (by decide) rfl ?_
      refine ar_go rfl ?_
      refine ar_ldI rfl rfl ?_
      refine ar_ldI rfl rfl ?_
      refine ar_if2f rfl (by decide) ?_
      refine ar_ldA rfl rfl ?_
      refine ar_ldI rfl rfl ?_
      refine ar_ldJ rfl rfl ?_
      refine ar_astJ rfl (hs_eq (hs_eq (hs_eq (hs_eq (hs_eq (hs_eq (hs_eq (hs_eq (hs_eq (hs_eq (hs_eq (hs_eq (hs_eq (hs_eq (hs_eq (hs_eq (hs_eq (hs_eq (hs_eq (hs_eq (hs_eq (hs_eq (hs_eq (hs_eq (hs_eq (hs_eq (hs_eq (hs_eq (hs_ne (by decide) rfl))))))))))))))))))))))))))))) (by decide) (Nat.le_of_ble_eq_true rfl) ?_
      refine ar_incl (z := 29) [some (.inr (.inr (some 45))), some (.inr (.inl _)), none, some (.inl 29), some (.inl 36)] rfl rfl (by decide) rfl ?_
      refine ar_go rfl ?_
      refine ar_ldI rfl rfl ?_
      refine ar_ldI rfl rfl ?_
      refine ar_if2f rfl (by decide) ?_
      refine ar_ldA rfl rfl ?_
      refine ar_ldI rfl rfl ?_
      refine ar_ldJ rfl rfl ?_
      refine ar_astJ rfl (hs_eq (hs_eq (hs_eq (hs_eq (hs_eq (hs_eq (hs_eq (hs_eq (hs_eq (hs_eq (hs_eq (hs_eq (hs_eq (hs_eq (hs_eq (hs_eq (hs_eq (hs_eq (hs_eq (hs_eq (hs_eq (hs_eq (hs_eq (hs_eq (hs_eq (hs_eq (hs_eq (hs_eq (hs_eq (hs_ne (by decide) rfl)))))))))))))))))))))))))))))) (by decide) (Nat.le_of_ble_eq_true rfl) ?_
      refine ar_incl (z := 30) [some (.inr (.inr (some 45))), some (.inr (.inl _)), none, some (.inl 30), some (.inl 36)] rfl rfl (by decide) rfl ?_
      refine ar_go rfl ?_
      refine ar_ldI rfl rfl ?_
      refine ar_ldI rfl rfl ?_
      refine ar_if2f rfl (by decide) ?_
      refine ar_ldA rfl rfl ?_
      refine ar_ldI rfl rfl ?_
      refine ar_ldJ rfl rfl ?_
      refine ar_astJ rfl (hs_eq (hs_eq (hs_eq (hs_eq (hs_eq (hs_eq (hs_eq (hs_eq (hs_eq (hs_eq (hs_eq (hs_eq (hs_eq (hs_eq (hs_eq (hs_eq (hs_eq (hs_eq (hs_eq (hs_eq (hs_eq (hs_eq (hs_eq (hs_eq (hs_eq (hs_eq (hs_eq (hs_eq (hs_eq (hs_eq (hs_ne (by decide) rfl))))))))))))))))))))))))))))))) (by decide) (Nat.le_of_ble_eq_true rfl) ?_
      refine ar_incl (z := 31) [some (.inr (.inr (some 45))), some (.inr (.inl _)), none, some (.inl 31), some (.inl 36)] rfl rfl (by decide) rfl ?_
      refine ar_go rfl ?_
      refine ar_ldI rfl rfl ?_
      refine ar_ldI rfl rfl ?_
      refine ar_if2f rfl (by decide) ?_
      refine ar_ldA rfl rfl ?_
      refine ar_ldI rfl rfl ?_
      refine ar_ldJ rfl rfl ?_
      refine ar_astJ rfl (hs_eq (hs_eq (hs_eq (hs_eq (hs_eq (hs_eq (hs_eq (hs_eq (hs_eq (hs_eq (hs_eq (hs_eq (hs_eq (hs_eq (hs_eq (hs_eq (hs_eq (hs_eq (hs_eq (hs_eq (hs_eq (hs_eq (hs_eq (hs_eq (hs_eq (hs_eq (hs_eq (hs_eq (hs_eq (hs_eq (hs_eq (hs_ne (by decide) rfl)))))))))))))))))))))))))))))))) (by decide) (Nat.le_of_ble_eq_true rfl) ?_
      refine ar_incl (z := 32) [some (.inr (.inr (some 45))), some (.inr (.inl _)), none, some (.inl 32), some (.inl 36)] rfl rfl (by decide) rfl ?_
      refine ar_go rfl ?_
      refine ar_ldI rfl rfl ?_
      refine ar_ldI rfl rfl ?_
      refine ar_if2f rfl (by decide) ?_
      refine ar_ldA rfl rfl ?_
      refine ar_ldI rfl rfl ?_
      refine ar_ldJ rfl rfl ?_
      refine ar_astJ rfl (hs_eq (hs_eq (hs_eq (hs_eq (hs_eq (hs_eq (hs_eq (hs_eq (hs_eq (hs_eq (hs_eq (hs_eq (hs_eq (hs_eq (hs_eq (hs_eq (hs_eq (hs_eq (hs_eq (hs_eq (hs_eq (hs_eq (hs_eq (hs_eq (hs_eq (hs_eq (hs_eq (hs_eq (hs_eq (hs_eq (hs_eq (hs_eq (hs_ne (by decide) rfl))))))))))))))))))))))))))))))))) (by decide) (Nat.le_of_ble_eq_true rfl) ?_
      refine ar_incl (z := 33) [some (.inr (.inr (some 45))), some (.inr (.inl _)), none, some (.inl 33), some (.inl 36)] rfl rfl (by decide) rfl ?_
      refine ar_go rfl ?_
      refine ar_ldI rfl rfl ?_
      refine ar_ldI rfl rfl ?_
      refine ar_if2f rfl (by decide) ?_
      refine ar_ldA rfl rfl ?_
      refine ar_ldI rfl rfl ?_
      refine ar_ldJ rfl rfl ?_
      refine ar_astJ rfl (hs_eq (hs_eq (hs_eq (hs_eq (hs_eq (hs_eq (hs_eq (hs_eq (hs_eq (hs_eq (hs_eq (hs_eq (hs_eq (hs_eq (hs_eq (hs_eq (hs_eq (hs_eq (hs_eq (hs_eq (hs_eq (hs_eq (hs_eq (hs_eq (hs_eq (hs_eq (hs_eq (hs_eq (hs_eq (hs_eq (hs_eq (hs_eq (hs_eq (hs_ne (by decide) rfl)))))))))))))))))))))))))))))))))) (by decide) (Nat.le_of_ble_eq_true rfl) ?_
      refine ar_incl (z := 34) [some (.inr (.inr (some 45))), some (.inr (.inl _)), none, some (.inl 34), some (.inl 36)] rfl rfl (by decide) rfl ?_
      refine ar_go rfl ?_
      refine ar_ldI rfl rfl ?_
      refine ar_ldI rfl rfl ?_
      refine ar_if2f rfl (by decide) ?_
      refine ar_ldA rfl rfl ?_
      refine ar_ldI rfl rfl ?_
      refine ar_ldJ rfl rfl ?_
      refine ar_astJ rfl (hs_eq (hs_eq (hs_eq (hs_eq (hs_eq (hs_eq (hs_eq (hs_eq (hs_eq (hs_eq (hs_eq (hs_eq (hs_eq (hs_eq (hs_eq (hs_eq (hs_eq (hs_eq (hs_eq (hs_eq (hs_eq (hs_eq (hs_eq (hs_eq (hs_eq (hs_eq (hs_eq (hs_eq (hs_eq (hs_eq (hs_eq (hs_eq (hs_eq (hs_eq (hs_ne (by decide) rfl))))))))))))))))))))))))))))))))))) (by decide) (Nat.le_of_ble_eq_true rfl) ?_
      refine ar_incl (z := 35) [some (.inr (.inr (some 45))), some (.inr (.inl _)), none, some (.inl 35), some (.inl 36)] rfl rfl (by decide) rfl ?_
      refine ar_go rfl ?_
      refine ar_ldI rfl rfl ?_
      refine ar_ldI rfl rfl ?_
      refine ar_if2f rfl (by decide) ?_
      refine ar_ldA rfl rfl ?_
      refine ar_ldI rfl rfl ?_
      refine ar_ldJ rfl rfl ?_
      refine ar_astJ rfl (hs_eq (hs_eq (hs_eq (hs_eq (hs_eq (hs_eq (hs_eq (hs_eq (hs_eq (hs_eq (hs_eq (hs_eq (hs_eq (hs_eq (hs_eq (hs_eq (hs_eq (hs_eq (hs_eq (hs_eq (hs_eq (hs_eq (hs_eq (hs_eq (hs_eq (hs_eq (hs_eq (hs_eq (hs_eq (hs_eq (hs_eq (hs_eq (hs_eq (hs_eq (hs_eq (hs_ne (by decide) rfl)))))))))))))))))))))))))))))))))))) (by decide) (Nat.le_of_ble_eq_true rfl) ?_
      refine ar_incl (z := 36) [some (.inr (.inr (some 45))), some (.inr (.inl _)), none, some (.inl 36), some (.inl 36)] rfl rfl (by decide) rfl ?_
      refine ar_go rfl ?_
      refine ar_ldI rfl rfl ?_
      refine ar_ldI rfl rfl ?_
      refine ar_if2t rfl (by decide) ?_
      refine ar_ret0 rfl ?_
      show aRun _ (aCall Mt _) _ 8 (_, [], _, _, _)
      refine ar_ldA rfl rfl ?_
      refine ar_get rfl (hs_ne (by decide) (hs_ne (by decide) (hs_ne (by decide) (hs_ne (by decide) (hs_ne (by decide) (hs_ne (by decide) (hs_ne (by decide) (hs_ne (by decide) (hs_ne (by decide) (hs_ne (by decide) (hs_ne (by decide) (hs_ne (by decide) (hs_ne (by decide) (hs_ne (by decide) (hs_ne (by decide) (hs_ne (by decide) (hs_ne (by decide) (hs_ne (by decide) (hs_ne (by decide) (hs_ne (by decide) (hs_ne (by decide) (hs_ne (by decide) (hs_ne (by decide) (hs_ne (by decide) (hs_ne (by decide) (hs_ne (by decide) (hs_ne (by decide) (hs_ne (by decide) (hs_ne (by decide) (hs_ne (by decide) (hs_ne (by decide) (hs_ne (by decide) (hs_ne (by decide) (hs_ne (by decide) (hs_ne (by decide) (hs_ne (by decide) (hs_ne (by decide) rfl))))))))))))))))))))))))))))))))))))) rfl ?_
      refine ar_push rfl ?_
      refine ar_inl (mc := 0) (ms := 0) rfl rfl (Nat.le_of_ble_eq_true rfl) (Nat.le_of_ble_eq_true rfl) (by omega) (by omega) ?_
      refine ac_ink [some (.inr (.inr (some 46))), some (.inl (-1)), none, none] mt_307 (Nat.le_of_ble_eq_true rfl) rfl ?_
      refine ar_push rfl ?_
      refine ar_svIk [some (.inr (.inr (some 46))), some (.inl (-1)), some (.inl 0), none] rfl rfl ?_
      refine ar_ldA rfl rfl ?_
      refine ar_len rfl (hs_ne (by decide) (hs_ne (by decide) (hs_ne (by decide) (hs_ne (by decide) (hs_ne (by decide) (hs_ne (by decide) (hs_ne (by decide) (hs_ne (by decide) (hs_ne (by decide) (hs_ne (by decide) (hs_ne (by decide) (hs_ne (by decide) (hs_ne (by decide) (hs_ne (by decide) (hs_ne (by decide) (hs_ne (by decide) (hs_ne (by decide) (hs_ne (by decide) (hs_ne (by decide) (hs_ne (by decide) (hs_ne (by decide) (hs_ne (by decide) (hs_ne (by decide) (hs_ne (by decide) (hs_ne (by decide) (hs_ne (by decide) (hs_ne (by decide) (hs_ne (by decide) (hs_ne (by decide) (hs_ne (by decide) (hs_ne (by decide) (hs_ne (by decide) (hs_ne (by decide) (hs_ne (by decide) (hs_ne (by decide) (hs_ne (by decide) (hs_ne (by decide) rfl))))))))))))))))))))))))))))))))))))) ?_
      refine ar_svIk [some (.inr (.inr (some 46))), some (.inl (-1)), some (.inl 0), some (.inl 12)] rfl rfl ?_
      refine ar_ldI rfl rfl ?_
      refine ar_ldI rfl rfl ?_
      refine ar_if2f rfl (by decide) ?_
      refine ar_ldA rfl rfl ?_
      refine ar_ldI rfl rfl ?_
      refine ar_ldI rfl rfl ?_
      refine ar_ast rfl (hs_ne (by decide) (hs_ne (by decide) (hs_ne (by decide) (hs_ne (by decide) (hs_ne (by decide) (hs_ne (by decide) (hs_ne (by decide) (hs_ne (by decide) (hs_ne (by decide) (hs_ne (by decide) (hs_ne (by decide) (hs_ne (by decide) (hs_ne (by decide) (hs_ne (by decide) (hs_ne (by decide) (hs_ne (by decide) (hs_ne (by decide) (hs_ne (by decide) (hs_ne (by decide) (hs_ne (by decide) (hs_ne (by decide) (hs_ne (by decide) (hs_ne (by decide) (hs_ne (by decide) (hs_ne (by decide) (hs_ne (by decide) (hs_ne (by decide) (hs_ne (by decide) (hs_ne (by decide) (hs_ne (by decide) (hs_ne (by decide) (hs_ne (by decide) (hs_ne (by decide) (hs_ne (by decide) (hs_ne (by decide) (hs_ne (by decide) (hs_ne (by decide) rfl))))))))))))))))))))))))))))))))))))) (by decide) (Nat.le_of_ble_eq_true rfl) ?_
      refine ar_incl (z := 1) [some (.inr (.inr (some 46))), some (.inl (-1)), some (.inl 1), some (.inl 12)] rfl rfl (by decide) rfl ?_
      refine ar_go rfl ?_
      refine ar_ldI rfl rfl ?_
      refine ar_ldI rfl rfl ?_
      refine ar_if2f rfl (by decide) ?_
      refine ar_ldA rfl rfl ?_
      refine ar_ldI rfl rfl ?_
      refine ar_ldI rfl rfl ?_
      refine ar_ast rfl (hs_eq (hs_ne (by decide) (hs_ne (by decide) (hs_ne (by decide) (hs_ne (by decide) (hs_ne (by decide) (hs_ne (by decide) (hs_ne (by decide) (hs_ne (by decide) (hs_ne (by decide) (hs_ne (by decide) (hs_ne (by decide) (hs_ne (by decide) (hs_ne (by decide) (hs_ne (by decide) (hs_ne (by decide) (hs_ne (by decide) (hs_ne (by decide) (hs_ne (by decide) (hs_ne (by decide) (hs_ne (by decide) (hs_ne (by decide) (hs_ne (by decide) (hs_ne (by decide) (hs_ne (by decide) (hs_ne (by decide) (hs_ne (by decide) (hs_ne (by decide) (hs_ne (by decide) (hs_ne (by decide) (hs_ne (by decide) (hs_ne (by decide) (hs_ne (by decide) (hs_ne (by decide) (hs_ne (by decide) (hs_ne (by decide) (hs_ne (by decide) (hs_ne (by decide) rfl)))))))))))))))))))))))))))))))))))))) (by decide) (Nat.le_of_ble_eq_true rfl) ?_
      refine ar_incl (z := 2) [some (.inr (.inr (some 46))), some (.inl (-1)), some (.inl 2), some (.inl 12)] rfl rfl (by decide) rfl ?_
      refine ar_go rfl ?_
      refine ar_ldI rfl rfl ?_
      refine ar_ldI rfl rfl ?_
      refine ar_if2f rfl (by decide) ?_
      refine ar_ldA rfl rfl ?_
      refine ar_ldI rfl rfl ?_
      refine ar_ldI rfl rfl ?_
      refine ar_ast rfl (hs_eq (hs_eq (hs_ne (by decide) (hs_ne (by decide) (hs_ne (by decide) (hs_ne (by decide) (hs_ne (by decide) (hs_ne (by decide) (hs_ne (by decide) (hs_ne (by decide) (hs_ne (by decide) (hs_ne (by decide) (hs_ne (by decide) (hs_ne (by decide) (hs_ne (by decide) (hs_ne (by decide) (hs_ne (by decide) (hs_ne (by decide) (hs_ne (by decide) (hs_ne (by decide) (hs_ne (by decide) (hs_ne (by decide) (hs_ne (by decide) (hs_ne (by decide) (hs_ne (by decide) (hs_ne (by decide) (hs_ne (by decide) (hs_ne (by decide) (hs_ne (by decide) (hs_ne (by decide) (hs_ne (by decide) (hs_ne (by decide) (hs_ne (by decide) (hs_ne (by decide) (hs_ne (by decide) (hs_ne (by decide) (hs_ne (by decide) (hs_ne (by decide) (hs_ne (by decide) rfl))))))))))))))))))))))))))))))))))))))) (by decide) (Nat.le_of_ble_eq_true rfl) ?_
      refine ar_incl (z := 3) [some (.inr (.inr (some 46))), some (.inl (-1)), some (.inl 3), some (.inl 12)] rfl rfl (by decide) rfl ?_
      refine ar_go rfl ?_
      refine ar_ldI rfl rfl ?_
      refine ar_ldI rfl rfl ?_
      refine ar_if2f rfl (by decide) ?_
      refine ar_ldA rfl rfl ?_
      refine ar_ldI rfl rfl ?_
      refine ar_ldI rfl rfl ?_
      refine ar_ast rfl (hs_eq (hs_eq (hs_eq (hs_ne (by decide) (hs_ne (by decide) (hs_ne (by decide) (hs_ne (by decide) (hs_ne (by decide) (hs_ne (by decide) (hs_ne (by decide) (hs_ne (by decide) (hs_ne (by decide) (hs_ne (by decide) (hs_ne (by decide) (hs_ne (by decide) (hs_ne (by decide) (hs_ne (by decide) (hs_ne (by decide) (hs_ne (by decide) (hs_ne (by decide) (hs_ne (by decide) (hs_ne (by decide) (hs_ne (by decide) (hs_ne (by decide) (hs_ne (by decide) (hs_ne (by decide) (hs_ne (by decide) (hs_ne (by decide) (hs_ne (by decide) (hs_ne (by decide) (hs_ne (by decide) (hs_ne (by decide) (hs_ne (by decide) (hs_ne (by decide) (hs_ne (by decide) (hs_ne (by decide) (hs_ne (by decide) (hs_ne (by decide) (hs_ne (by decide) (hs_ne (by decide) rfl)))))))))))))))))))))))))))))))))))))))) (by decide) (Nat.le_of_ble_eq_true rfl) ?_
      refine ar_incl (z := 4) [some (.inr (.inr (some 46))), some (.inl (-1)), some (.inl 4), some (.inl 12)] rfl rfl (by decide) rfl ?_
      refine ar_go rfl ?_
      refine ar_ldI rfl rfl ?_
      refine ar_ldI rfl rfl ?_
      refine ar_if2f rfl (by decide) ?_
      refine ar_ldA rfl rfl ?_
      refine ar_ldI rfl rfl ?_
      refine ar_ldI rfl rfl ?_
      refine ar_ast rfl (hs_eq (hs_eq (hs_eq (hs_eq (hs_ne (by decide) (hs_ne (by decide) (hs_ne (by decide) (hs_ne (by decide) (hs_ne (by decide) (hs_ne (by decide) (hs_ne (by decide) (hs_ne (by decide) (hs_ne (by decide) (hs_ne (by decide) (hs_ne (by decide) (hs_ne (by decide) (hs_ne (by decide) (hs_ne (by decide) (hs_ne (by decide) (hs_ne (by decide) (hs_ne (by decide) (hs_ne (by decide) (hs_ne (by decide) (hs_ne (by decide) (hs_ne (by decide) (hs_ne (by decide) (hs_ne (by decide) (hs_ne (by decide) (hs_ne (by decide) (hs_ne (by decide) (hs_ne (by decide) (hs_ne (by decide) (hs_ne (by decide) (hs_ne (by decide) (hs_ne (by decide) (hs_ne (by decide) (hs_ne (by decide) (hs_ne (by decide) (hs_ne (by decide) (hs_ne (by decide) (hs_ne (by decide) rfl))))))))))))))))))))))))))))))))))))))))) (by decide) (Nat.le_of_ble_eq_true rfl) ?_
      refine ar_incl (z := 5) [some (.inr (.inr (some 46))), some (.inl (-1)), some (.inl 5), some (.inl 12)] rfl rfl (by decide) rfl ?_
      refine ar_go rfl ?_
      refine ar_ldI rfl rfl ?_
      refine ar_ldI rfl rfl ?_
      refine ar_if2f rfl (by decide) ?_
      refine ar_ldA rfl rfl ?_
      refine ar_ldI rfl rfl ?_
      refine ar_ldI rfl rfl ?_
      refine ar_ast rfl (hs_eq (hs_eq (hs_eq (hs_eq (hs_eq (hs_ne (by decide) (hs_ne (by decide) (hs_ne (by decide) (hs_ne (by decide) (hs_ne (by decide) (hs_ne (by decide) (hs_ne (by decide) (hs_ne (by decide) (hs_ne (by decide) (hs_ne (by decide) (hs_ne (by decide) (hs_ne (by decide) (hs_ne (by decide) (hs_ne (by decide) (hs_ne (by decide) (hs_ne (by decide) (hs_ne (by decide) (hs_ne (by decide) (hs_ne (by decide) (hs_ne (by decide) (hs_ne (by decide) (hs_ne (by decide) (hs_ne (by decide) (hs_ne (by decide) (hs_ne (by decide) (hs_ne (by decide) (hs_ne (by decide) (hs_ne (by decide) (hs_ne (by decide) (hs_ne (by decide) (hs_ne (by decide) (hs_ne (by decide) (hs_ne (by decide) (hs_ne (by decide) (hs_ne (by decide) (hs_ne (by decide) (hs_ne (by decide) rfl)))))))))))))))))))))))))))))))))))))))))) (by decide) (Nat.le_of_ble_eq_true rfl) ?_
      refine ar_incl (z := 6) [some (.inr (.inr (some 46))), some (.inl (-1)), some (.inl 6), some (.inl 12)] rfl rfl (by decide) rfl ?_
      refine ar_go rfl ?_
      refine ar_ldI rfl rfl ?_
      refine ar_ldI rfl rfl ?_
      refine ar_if2f rfl (by decide) ?_
      refine ar_ldA rfl rfl ?_
      refine ar_ldI rfl rfl ?_
      refine ar_ldI rfl rfl ?_
      refine ar_ast rfl (hs_eq (hs_eq (hs_eq (hs_eq (hs_eq (hs_eq (hs_ne (by decide) (hs_ne (by decide) (hs_ne (by decide) (hs_ne (by decide) (hs_ne (by decide) (hs_ne (by decide) (hs_ne (by decide) (hs_ne (by decide) (hs_ne (by decide) (hs_ne (by decide) (hs_ne (by decide) (hs_ne (by decide) (hs_ne (by decide) (hs_ne (by decide) (hs_ne (by decide) (hs_ne (by decide) (hs_ne (by decide) (hs_ne (by decide) (hs_ne (by decide) (hs_ne (by decide) (hs_ne (by decide) (hs_ne (by decide) (hs_ne (by decide) (hs_ne (by decide) (hs_ne (by decide) (hs_ne (by decide) (hs_ne (by decide) (hs_ne (by decide) (hs_ne (by decide) (hs_ne (by decide) (hs_ne (by decide) (hs_ne (by decide) (hs_ne (by decide) (hs_ne (by decide) (hs_ne (by decide) (hs_ne (by decide) (hs_ne (by decide) rfl))))))))))))))))))))))))))))))))))))))))))) (by decide) (Nat.le_of_ble_eq_true rfl) ?_
      refine ar_incl (z := 7) [some (.inr (.inr (some 46))), some (.inl (-1)), some (.inl 7), some (.inl 12)] rfl rfl (by decide) rfl ?_
      refine ar_go rfl ?_
      refine ar_ldI rfl rfl ?_
      refine ar_ldI rfl rfl ?_
      refine ar_if2f rfl (by decide) ?_
      refine ar_ldA rfl rfl ?_
      refine ar_ldI rfl rfl ?_
      refine ar_ldI rfl rfl ?_
      refine ar_ast rfl (hs_eq (hs_eq (hs_eq (hs_eq (hs_eq (hs_eq (hs_eq (hs_ne (by decide) (hs_ne (by decide) (hs_ne (by decide) (hs_ne (by decide) (hs_ne (by decide) (hs_ne (by decide) (hs_ne (by decide) (hs_ne (by decide) (hs_ne (by decide) (hs_ne (by decide) (hs_ne (by decide) (hs_ne (by decide) (hs_ne (by decide) (hs_ne (by decide) (hs_ne (by decide) (hs_ne (by decide) (hs_ne (by decide) (hs_ne (by decide) (hs_ne (by decide) (hs_ne (by decide) (hs_ne (by decide) (hs_ne (by decide) (hs_ne (by decide) (hs_ne (by decide) (hs_ne (by decide) (hs_ne (by decide) (hs_ne (by decide) (hs_ne (by decide) (hs_ne (by decide) (hs_ne (by decide) (hs_ne (by decide) (hs_ne (by decide) (hs_ne (by decide) (hs_ne (by decide) (hs_ne (by decide) (hs_ne (by decide) (hs_ne (by decide) rfl)))))))))))))))))))))))))))))))))))))))))))) (by decide) (Nat.le_of_ble_eq_true rfl) ?_
      refine ar_incl (z := 8) [some (.inr (.inr (some 46))), some (.inl (-1)), some (.inl 8), some (.inl 12)] rfl rfl (by decide) rfl ?_
      refine ar_go rfl ?_
      refine ar_ldI rfl rfl ?_
      refine ar_ldI rfl rfl ?_
      refine ar_if2f rfl (by decide) ?_
      refine ar_ldA rfl rfl ?_
      refine ar_ldI rfl rfl ?_
      refine ar_ldI rfl rfl ?_
      refine ar_ast rfl (hs_eq (hs_eq (hs_eq (hs_eq (hs_eq (hs_eq (hs_eq (hs_eq (hs_ne (by decide) (hs_ne (by decide) (hs_ne (by decide) (hs_ne (by decide) (hs_ne (by decide) (hs_ne (by decide) (hs_ne (by decide) (hs_ne (by decide) (hs_ne (by decide) (hs_ne (by decide) (hs_ne (by decide) (hs_ne (by decide) (hs_ne (by decide) (hs_ne (by decide) (hs_ne (by decide) (hs_ne (by decide) (hs_ne (by decide) (hs_ne (by decide) (hs_ne (by decide) (hs_ne (by decide) (hs_ne (by decide) (hs_ne (by decide) (hs_ne (by decide) (hs_ne (by decide) (hs_ne (by decide) (hs_ne (by decide) (hs_ne (by decide) (hs_ne (by decide) (hs_ne (by decide) (hs_ne (by decide) (hs_ne (by decide) (hs_ne (by decide) (hs_ne (by decide) (hs_ne (by decide) (hs_ne (by decide) (hs_ne (by decide) (hs_ne (by decide) rfl))))))))))))))))))))))))))))))))))))))))))))) (by decide) (Nat.le_of_ble_eq_true rfl) ?_
      refine ar_incl (z := 9) [some (.inr (.inr (some 46))), some (.inl (-1)), some (.inl 9), some (.inl 12)] rfl rfl (by decide) rfl ?_
      refine ar_go rfl ?_
      refine ar_ldI rfl rfl ?_
      refine ar_ldI rfl rfl ?_
      refine ar_if2f rfl (by decide) ?_
      refine ar_ldA rfl rfl ?_
      refine ar_ldI rfl rfl ?_
      refine ar_ldI rfl rfl ?_
      refine ar_ast rfl (hs_eq (hs_eq (hs_eq (hs_eq (hs_eq (hs_eq (hs_eq (hs_eq (hs_eq (hs_ne (by decide) (hs_ne (by decide) (hs_ne (by decide) (hs_ne (by decide) (hs_ne (by decide) (hs_ne (by decide) (hs_ne (by decide) (hs_ne (by decide) (hs_ne (by decide) (hs_ne (by decide) (hs_ne (by decide) (hs_ne (by decide) (hs_ne (by decide) (hs_ne (by decide) (hs_ne (by decide) (hs_ne (by decide) (hs_ne (by decide) (hs_ne (by decide) (hs_ne (by decide) (hs_ne (by decide) (hs_ne (by decide) (hs_ne (by decide) (hs_ne (by decide) (hs_ne (by decide) (hs_ne (by decide) (hs_ne (by decide) (hs_ne (by decide) (hs_ne (by decide) (hs_ne (by decide) (hs_ne (by decide) (hs_ne (by decide) (hs_ne (by decide) (hs_ne (by decide) (hs_ne (by decide) (hs_ne (by decide) (hs_ne (by decide) (hs_ne (by decide) rfl)))))))))))))))))))))))))))))))))))))))))))))) (by decide) (Nat.le_of_ble_eq_true rfl) ?_
      refine ar_incl (z := 10) [some (.inr (.inr (some 46))), some (.inl (-1)), some (.inl 10), some (.inl 12)] rfl rfl (by decide) rfl ?_
      refine ar_go rfl ?_
      refine ar_ldI rfl rfl ?_
      refine ar_ldI rfl rfl ?_
      refine ar_if2f rfl (by decide) ?_
      refine ar_ldA rfl rfl ?_
      refine ar_ldI rfl rfl ?_
      refine ar_ldI rfl rfl ?_
      refine ar_ast rfl (hs_eq (hs_eq (hs_eq (hs_eq (hs_eq (hs_eq (hs_eq (hs_eq (hs_eq (hs_eq (hs_ne (by decide) (hs_ne (by decide) (hs_ne (by decide) (hs_ne (by decide) (hs_ne (by decide) (hs_ne (by decide) (hs_ne (by decide) (hs_ne (by decide) (hs_ne (by decide) (hs_ne (by decide) (hs_ne (by decide) (hs_ne (by decide) (hs_ne (by decide) (hs_ne (by decide) (hs_ne (by decide) (hs_ne (by decide) (hs_ne (by decide) (hs_ne (by decide) (hs_ne (by decide) (hs_ne (by decide) (hs_ne (by decide) (hs_ne (by decide) (hs_ne (by decide) (hs_ne (by decide) (hs_ne (by decide) (hs_ne (by decide) (hs_ne (by decide) (hs_ne (by decide) (hs_ne (by decide) (hs_ne (by decide) (hs_ne (by decide) (hs_ne (by decide) (hs_ne (by decide) (hs_ne (by decide) (hs_ne (by decide) (hs_ne (by decide) (hs_ne (by decide) rfl))))))))))))))))))))))))))))))))))))))))))))))) (by decide) (Nat.le_of_ble_eq_true rfl) ?_
      refine ar_incl (z := 11) [some (.inr (.inr (some 46))), some (.inl (-1)), some (.inl 11), some (.inl 12)] rfl rfl (by decide) rfl ?_
      refine ar_go rfl ?_
      refine ar_ldI rfl rfl ?_
      refine ar_ldI rfl rfl ?_
      refine ar_if2f rfl (by decide) ?_
      refine ar_ldA rfl rfl ?_
      refine ar_ldI rfl rfl ?_
      refine ar_ldI rfl rfl ?_
      refine ar_ast rfl (hs_eq (hs_eq (hs_eq (hs_eq (hs_eq (hs_eq (hs_eq (hs_eq (hs_eq (hs_eq (hs_eq (hs_ne (by decide) (hs_ne (by decide) (hs_ne (by decide) (hs_ne (by decide) (hs_ne (by decide) (hs_ne (by decide) (hs_ne (by decide) (hs_ne (by decide) (hs_ne (by decide) (hs_ne (by decide) (hs_ne (by decide) (hs_ne (by decide) (hs_ne (by decide) (hs_ne (by decide) (hs_ne (by decide) (hs_ne (by decide) (hs_ne (by decide) (hs_ne (by decide) (hs_ne (by decide) (hs_ne (by decide) (hs_ne (by decide) (hs_ne (by decide) (hs_ne (by decide) (hs_ne (by decide) (hs_ne (by decide) (hs_ne (by decide) (hs_ne (by decide) (hs_ne (by decide) (hs_ne (by decide) (hs_ne (by decide) (hs_ne (by decide) (hs_ne (by decide) (hs_ne (by decide) (hs_ne (by decide) (hs_ne (by decide) (hs_ne (by decide) (hs_ne (by decide) rfl)))))))))))))))))))))))))))))))))))))))))))))))) (by decide) (Nat.le_of_ble_eq_true rfl) ?_
      refine ar_incl (z := 12) [some (.inr (.inr (some 46))), some (.inl (-1)), some (.inl 12), some (.inl 12)] rfl rfl (by decide) rfl ?_
      refine ar_go rfl ?_
      refine ar_ldI rfl rfl ?_
      refine ar_ldI rfl rfl ?_
      refine ar_if2t rfl (by decide) ?_
      refine ar_ret0 rfl ?_
      show aRun _ (aCall Mt _) _ 16 (_, [], _, _, _)
      refine ar_ret0 rfl ?_
      show aRun _ (aCall Mt _) _ 52 (_, [], _, _, _)
      refine ar_ldA rfl rfl ?_
      refine ar_get rfl (hs_ne (by decide) (hs_ne (by decide) (hs_ne (by decide) (hs_ne (by decide) (hs_ne (by decide) (hs_ne (by decide) (hs_ne (by decide) (hs_ne (by decide) (hs_ne (by decide) (hs_ne (by decide) (hs_ne (by decide) (hs_ne (by decide) (hs_ne (by decide) (hs_ne (by decide) (hs_ne (by decide) (hs_ne (by decide) (hs_ne (by decide) (hs_ne (by decide) (hs_ne (by decide) (hs_ne (by decide) (hs_ne (by decide) (hs_ne (by decide) (hs_ne (by decide) (hs_ne (by decide) (hs_ne (by decide) (hs_ne (by decide) (hs_ne (by decide) (hs_ne (by decide) (hs_ne (by decide) (hs_ne (by decide) (hs_ne (by decide) (hs_ne (by decide) (hs_ne (by decide) (hs_ne (by decide) (hs_ne (by decide) (hs_ne (by decide) (hs_ne (by decide) (hs_ne (by decide) (hs_ne (by decide) (hs_ne (by decide) (hs_ne (by decide) (hs_ne (by decide) (hs_ne (by decide) (hs_ne (by decide) (hs_ne (by decide) (hs_ne (by decide) (hs_ne (by decide) (hs_ne (by decide) (hs_ne (by decide) rfl))))))))))))))))))))))))))))))))))))))))))))))))) rfl ?_
      refine ar_ldI rfl rfl ?_
      refine ar_ldI rfl rfl ?_
      refine ar_inl (mc := 0) (ms := 0) rfl (rcv_of (hs_ne (by decide) (hs_ne (by decide) (hs_ne (by decide) (hs_ne (by decide) (hs_ne (by decide) (hs_ne (by decide) (hs_ne (by decide) (hs_ne (by decide) (hs_ne (by decide) (hs_ne (by decide) (hs_ne (by decide) (hs_ne (by decide) (hs_ne (by decide) (hs_ne (by decide) (hs_ne (by decide) (hs_ne (by decide) (hs_ne (by decide) (hs_ne (by decide) (hs_ne (by decide) (hs_ne (by decide) (hs_ne (by decide) (hs_ne (by decide) (hs_ne (by decide) (hs_ne (by decide) (hs_ne (by decide) (hs_ne (by decide) (hs_ne (by decide) (hs_ne (by decide) (hs_ne (by decide) (hs_ne (by decide) (hs_ne (by decide) (hs_ne (by decide) (hs_ne (by decide) (hs_ne (by decide) (hs_ne (by decide) (hs_ne (by decide) (hs_ne (by decide) (hs_ne (by decide) (hs_ne (by decide) (hs_ne (by decide) (hs_ne (by decide) (hs_ne (by decide) (hs_ne (by decide) (hs_ne (by decide) (hs_ne (by decide) (hs_ne (by decide) (hs_ne (by decide) (hs_ne (by decide) (hs_ne (by decide) rfl)))))))))))))))))))))))))))))))))))))))))))))))))) (Nat.le_of_ble_eq_true rfl) (Nat.le_of_ble_eq_true rfl) (by omega) (by omega) ?_
      refine ac_ink [some (.inr (.inr (some 1))), some (.inl _), some (.inl _), none] mt_58 (Nat.le_of_ble_eq_true rfl) rfl ?_
      refine ar_ldA rfl rfl ?_
      refine ar_get rfl (hs_ne (by decide) (hs_ne (by decide) (hs_ne (by decide) (hs_ne (by decide) (hs_ne (by decide) (hs_ne (by decide) (hs_ne (by decide) (hs_ne (by decide) (hs_ne (by decide) (hs_ne (by decide) (hs_ne (by decide) (hs_ne (by decide) (hs_ne (by decide) (hs_ne (by decide) (hs_ne (by decide) (hs_ne (by decide) (hs_ne (by decide) (hs_ne (by decide) (hs_ne (by decide) (hs_ne (by decide) (hs_ne (by decide) (hs_ne (by decide) (hs_ne (by decide) (hs_ne (by decide) (hs_ne (by decide) (hs_ne (by decide) (hs_ne (by decide) (hs_ne (by decide) (hs_ne (by decide) (hs_ne (by decide) (hs_ne (by decide) (hs_ne (by decide) (hs_ne (by decide) (hs_ne (by decide) (hs_ne (by decide) (hs_ne (by decide) (hs_ne (by decide) (hs_ne (by decide) (hs_ne (by decide) (hs_ne (by decide) (hs_ne (by decide) (hs_ne (by decide) (hs_ne (by decide) (hs_ne (by decide) (hs_ne (by decide) (hs_ne (by decide) (hs_ne (by decide) (hs_ne (by decide) (hs_ne (by decide) rfl))))))))))))))))))))))))))))))))))))))))))))))))) rfl ?_
      refine ar_push rfl ?_
      refine ar_if2t rfl (by decide) ?_
      refine ar_ldA rfl rfl ?_
      refine ar_get rfl (hs_ne (by decide) (hs_ne (by decide) (hs_ne (by decide) (hs_ne (by decide) (hs_ne (by decide) (hs_ne (by decide) (hs_ne (by decide) (hs_ne (by decide) (hs_ne (by decide) (hs_ne (by decide) (hs_ne (by decide) (hs_ne (by decide) (hs_ne (by decide) (hs_ne (by decide) (hs_ne (by decide) (hs_ne (by decide) (hs_ne (by decide) (hs_ne (by decide) (hs_ne (by decide) (hs_ne (by decide) (hs_ne (by decide) (hs_ne (by decide) (hs_ne (by decide) (hs_ne (by decide) (hs_ne (by decide) (hs_ne (by decide) (hs_ne (by decide) (hs_ne (by decide) (hs_ne (by decide) (hs_ne (by decide) (hs_ne (by decide) (hs_ne (by decide) (hs_ne (by decide) (hs_ne (by decide) (hs_ne (by decide) (hs_ne (by decide) (hs_ne (by decide) (hs_ne (by decide) (hs_ne (by decide) (hs_ne (by decide) (hs_ne (by decide) (hs_ne (by decide) (hs_ne (by decide) (hs_ne (by decide) (hs_ne (by decide) (hs_ne (by decide) (hs_ne (by decide) (hs_ne (by decide) (hs_ne (by decide) rfl))))))))))))))))))))))))))))))))))))))))))))))))) rfl ?_
      refine ar_ldA rfl rfl ?_
      refine ar_get rfl (hs_ne (by decide) (hs_ne (by decide) (hs_ne (by decide) (hs_ne (by decide) (hs_ne (by decide) (hs_ne (by decide) (hs_ne (by decide) (hs_ne (by decide) (hs_ne (by decide) (hs_ne (by decide) (hs_ne (by decide) (hs_ne (by decide) (hs_ne (by decide) (hs_ne (by decide) (hs_ne (by decide) (hs_ne (by decide) (hs_ne (by decide) (hs_ne (by decide) (hs_ne (by decide) (hs_ne (by decide) (hs_ne (by decide) (hs_ne (by decide) (hs_ne (by decide) (hs_ne (by decide) (hs_ne (by decide) (hs_ne (by decide) (hs_ne (by decide) (hs_ne (by decide) (hs_ne (by decide) (hs_ne (by decide) (hs_ne (by decide) (hs_ne (by decide) (hs_ne (by decide) (hs_ne (by decide) (hs_ne (by decide) (hs_ne (by decide) (hs_ne (by decide) (hs_ne (by decide) (hs_ne (by decide) (hs_ne (by decide) (hs_ne (by decide) (hs_ne (by decide) (hs_ne (by decide) (hs_ne (by decide) (hs_ne (by decide) (hs_ne (by decide) (hs_ne (by decide) (hs_ne (by decide) (hs_ne (by decide) rfl))))))))))))))))))))))))))))))))))))))))))))))))) rfl ?_
      refine ar_ldI rfl rfl ?_
      refine ar_ast rfl (hs_ne (by decide) (hs_ne (by decide) (hs_ne (by decide) (hs_ne (by decide) (hs_ne (by decide) (hs_ne (by decide) (hs_ne (by decide) (hs_ne (by decide) (hs_ne (by decide) (hs_ne (by decide) (hs_ne (by decide) (hs_ne (by decide) (hs_ne (by decide) (hs_ne (by decide) (hs_ne (by decide) (hs_ne (by decide) (hs_ne (by decide) (hs_ne (by decide) (hs_ne (by decide) (hs_ne (by decide) (hs_ne (by decide) (hs_ne (by decide) (hs_ne (by decide) (hs_ne (by decide) (hs_ne (by decide) (hs_ne (by decide) (hs_ne (by decide) (hs_ne (by decide) (hs_ne (by decide) (hs_ne (by decide) (hs_ne (by decide) (hs_ne (by decide) (hs_ne (by decide) (hs_ne (by decide) (hs_ne (by decide) (hs_ne (by decide) (hs_ne (by decide) (hs_ne (by decide) (hs_ne (by decide) (hs_ne (by decide) (hs_ne (by decide) (hs_ne (by decide) (hs_ne (by decide) (hs_ne (by decide) (hs_ne (by decide) (hs_ne (by decide) (hs_ne (by decide) (hs_ne (by decide) (hs_ne (by decide) rfl))))))))))))))))))))))))))))))))))))))))))))))))) (by decide) (Nat.le_of_ble_eq_true rfl) ?_
      refine ar_ldA rfl rfl ?_
      refine ar_get rfl (hs_ne (by decide) (hs_ne (by decide) (hs_ne (by decide) (hs_ne (by decide) (hs_ne (by decide) (hs_ne (by decide) (hs_ne (by decide) (hs_ne (by decide) (hs_ne (by decide) (hs_ne (by decide) (hs_ne (by decide) (hs_ne (by decide) (hs_ne (by decide) (hs_ne (by decide) (hs_ne (by decide) (hs_ne (by decide) (hs_ne (by decide) (hs_ne (by decide) (hs_ne (by decide) (hs_ne (by decide) (hs_ne (by decide) (hs_ne (by decide) (hs_ne (by decide) (hs_ne (by decide) (hs_ne (by decide) (hs_ne (by decide) (hs_ne (by decide) (hs_ne (by decide) (hs_ne (by decide) (hs_ne (by decide) (hs_ne (by decide) (hs_ne (by decide) (hs_ne (by decide) (hs_ne (by decide) (hs_ne (by decide) (hs_ne (by decide) (hs_ne (by decide) (hs_ne (by decide) (hs_ne (by decide) (hs_ne (by decide) (hs_ne (by decide) (hs_ne (by decide) (hs_ne (by decide) (hs_ne (by decide) (hs_ne (by decide) (hs_ne (by decide) (hs_ne (by decide) (hs_ne (by decide) (hs_ne (by decide) (hs_ne (by decide) rfl)))))))))))))))))))))))))))))))))))))))))))))))))) rfl ?_
      refine ar_ldA rfl rfl ?_
      refine ar_get rfl (hs_ne (by decide) (hs_ne (by decide) (hs_ne (by decide) (hs_ne (by decide) (hs_ne (by decide) (hs_ne (by decide) (hs_ne (by decide) (hs_ne (by decide) (hs_ne (by decide) (hs_ne (by decide) (hs_ne (by decide) (hs_ne (by decide) (hs_ne (by decide) (hs_ne (by decide) (hs_ne (by decide) (hs_ne (by decide) (hs_ne (by decide) (hs_ne (by decide) (hs_ne (by decide) (hs_ne (by decide) (hs_ne (by decide) (hs_ne (by decide) (hs_ne (by decide) (hs_ne (by decide) (hs_ne (by decide) (hs_ne (by decide) (hs_ne (by decide) (hs_ne (by decide) (hs_ne (by decide) (hs_ne (by decide) (hs_ne (by decide) (hs_ne (by decide) (hs_ne (by decide) (hs_ne (by decide) (hs_ne (by decide) (hs_ne (by decide) (hs_ne (by decide) (hs_ne (by decide) (hs_ne (by decide) (hs_ne (by decide) (hs_ne (by decide) (hs_ne (by decide) (hs_ne (by decide) (hs_ne (by decide) (hs_ne (by decide) (hs_ne (by decide) (hs_ne (by decide) (hs_ne (by decide) (hs_ne (by decide) (hs_ne (by decide) rfl)))))))))))))))))))))))))))))))))))))))))))))))))) rfl ?_
      refine ar_ldI rfl rfl ?_
      refine ar_ast rfl (hs_ne (by decide) (hs_ne (by decide) (hs_ne (by decide) (hs_ne (by decide) (hs_ne (by decide) (hs_ne (by decide) (hs_ne (by decide) (hs_ne (by decide) (hs_ne (by decide) (hs_ne (by decide) (hs_ne (by decide) (hs_ne (by decide) (hs_ne (by decide) (hs_ne (by decide) (hs_ne (by decide) (hs_ne (by decide) (hs_ne (by decide) (hs_ne (by decide) (hs_ne (by decide) (hs_ne (by decide) (hs_ne (by decide) (hs_ne (by decide) (hs_ne (by decide) (hs_ne (by decide) (hs_ne (by decide) (hs_ne (by decide) (hs_ne (by decide) (hs_ne (by decide) (hs_ne (by decide) (hs_ne (by decide) (hs_ne (by decide) (hs_ne (by decide) (hs_ne (by decide) (hs_ne (by decide) (hs_ne (by decide) (hs_ne (by decide) (hs_ne (by decide) (hs_ne (by decide) (hs_ne (by decide) (hs_ne (by decide) (hs_ne (by decide) (hs_ne (by decide) (hs_ne (by decide) (hs_ne (by decide) (hs_ne (by decide) (hs_ne (by decide) (hs_ne (by decide) (hs_ne (by decide) (hs_ne (by decide) (hs_ne (by decide) rfl)))))))))))))))))))))))))))))))))))))))))))))))))) (by decide) (Nat.le_of_ble_eq_true rfl) ?_
      refine ar_ldA rfl rfl ?_
      refine ar_dup rfl rfl ?_
      refine ar_get rfl (hs_ne (by decide) (hs_ne (by decide) (hs_ne (by decide) (hs_ne (by decide) (hs_ne (by decide) (hs_ne (by decide) (hs_ne (by decide) (hs_ne (by decide) (hs_ne (by decide) (hs_ne (by decide) (hs_ne (by decide) (hs_ne (by decide) (hs_ne (by decide) (hs_ne (by decide) (hs_ne (by decide) (hs_ne (by decide) (hs_ne (by decide) (hs_ne (by decide) (hs_ne (by decide) (hs_ne (by decide) (hs_ne (by decide) (hs_ne (by decide) (hs_ne (by decide) (hs_ne (by decide) (hs_ne (by decide) (hs_ne (by decide) (hs_ne (by decide) (hs_ne (by decide) (hs_ne (by decide) (hs_ne (by decide) (hs_ne (by decide) (hs_ne (by decide) (hs_ne (by decide) (hs_ne (by decide) (hs_ne (by decide) (hs_ne (by decide) (hs_ne (by decide) (hs_ne (by decide) (hs_ne (by decide) (hs_ne (by decide) (hs_ne (by decide) (hs_ne (by decide) (hs_ne (by decide) (hs_ne (by decide) (hs_ne (by decide) (hs_ne (by decide) (hs_ne (by decide) (hs_ne (by decide) (hs_ne (by decide) (hs_ne (by decide) (hs_ne (by decide) rfl))))))))))))))))))))))))))))))))))))))))))))))))))) rfl ?_
      refine ar_push rfl ?_
      refine ar_bink (z := 1) rfl (by decide) ?_
      refine ar_put rfl (hs_ne (by decide) (hs_ne (by decide) (hs_ne (by decide) (hs_ne (by decide) (hs_ne (by decide) (hs_ne (by decide) (hs_ne (by decide) (hs_ne (by decide) (hs_ne (by decide) (hs_ne (by decide) (hs_ne (by decide) (hs_ne (by decide) (hs_ne (by decide) (hs_ne (by decide) (hs_ne (by decide) (hs_ne (by decide) (hs_ne (by decide) (hs_ne (by decide) (hs_ne (by decide) (hs_ne (by decide) (hs_ne (by decide) (hs_ne (by decide) (hs_ne (by decide) (hs_ne (by decide) (hs_ne (by decide) (hs_ne (by decide) (hs_ne (by decide) (hs_ne (by decide) (hs_ne (by decide) (hs_ne (by decide) (hs_ne (by decide) (hs_ne (by decide) (hs_ne (by decide) (hs_ne (by decide) (hs_ne (by decide) (hs_ne (by decide) (hs_ne (by decide) (hs_ne (by decide) (hs_ne (by decide) (hs_ne (by decide) (hs_ne (by decide) (hs_ne (by decide) (hs_ne (by decide) (hs_ne (by decide) (hs_ne (by decide) (hs_ne (by decide) (hs_ne (by decide) (hs_ne (by decide) (hs_ne (by decide) (hs_ne (by decide) (hs_ne (by decide) rfl))))))))))))))))))))))))))))))))))))))))))))))))))) (Nat.le_of_ble_eq_true rfl) rfl ?_
      refine ar_push rfl ?_
      refine ar_svIk [some (.inr (.inr (some 1))), some (.inl _), some (.inl _), some (.inl 0)] rfl rfl ?_
      refine ar_ldI rfl rfl ?_
      refine ar_ldA rfl rfl ?_
      refine ar_get rfl (hs_eq (hs_ne (by decide) (hs_ne (by decide) (hs_ne (by decide) (hs_ne (by decide) (hs_ne (by decide) (hs_ne (by decide) (hs_ne (by decide) (hs_ne (by decide) (hs_ne (by decide) (hs_ne (by decide) (hs_ne (by decide) (hs_ne (by decide) (hs_ne (by decide) (hs_ne (by decide) (hs_ne (by decide) (hs_ne (by decide) (hs_ne (by decide) (hs_ne (by decide) (hs_ne (by decide) (hs_ne (by decide) (hs_ne (by decide) (hs_ne (by decide) (hs_ne (by decide) (hs_ne (by decide) (hs_ne (by decide) (hs_ne (by decide) (hs_ne (by decide) (hs_ne (by decide) (hs_ne (by decide) (hs_ne (by decide) (hs_ne (by decide) (hs_ne (by decide) (hs_ne (by decide) (hs_ne (by decide) (hs_ne (by decide) (hs_ne (by decide) (hs_ne (by decide) (hs_ne (by decide) (hs_ne (by decide) (hs_ne (by decide) (hs_ne (by decide) (hs_ne (by decide) (hs_ne (by decide) (hs_ne (by decide) (hs_ne (by decide) (hs_ne (by decide) (hs_ne (by decide) (hs_ne (by decide) (hs_ne (by decide) (hs_ne (by decide) (hs_ne (by decide) rfl)))))))))))))))))))))))))))))))))))))))))))))))))))) rfl ?_
      refine ar_if2t rfl (by decide) ?_
      refine ar_ldA rfl rfl ?_
      refine ar_get rfl (hs_eq (hs_ne (by decide) (hs_ne (by decide) (hs_ne (by decide) (hs_ne (by decide) (hs_ne (by decide) (hs_ne (by decide) (hs_ne (by decide) (hs_ne (by decide) (hs_ne (by decide) (hs_ne (by decide) (hs_ne (by decide) (hs_ne (by decide) (hs_ne (by decide) (hs_ne (by decide) (hs_ne (by decide) (hs_ne (by decide) (hs_ne (by decide) (hs_ne (by decide) (hs_ne (by decide) (hs_ne (by decide) (hs_ne (by decide) (hs_ne (by decide) (hs_ne (by decide) (hs_ne (by decide) (hs_ne (by decide) (hs_ne (by decide) (hs_ne (by decide) (hs_ne (by decide) (hs_ne (by decide) (hs_ne (by decide) (hs_ne (by decide) (hs_ne (by decide) (hs_ne (by decide) (hs_ne (by decide) (hs_ne (by decide) (hs_ne (by decide) (hs_ne (by decide) (hs_ne (by decide) (hs_ne (by decide) (hs_ne (by decide) (hs_ne (by decide) (hs_ne (by decide) (hs_ne (by decide) (hs_ne (by decide) (hs_ne (by decide) (hs_ne (by decide) (hs_ne (by decide) (hs_ne (by decide) (hs_ne (by decide) (hs_ne (by decide) (hs_ne (by decide) rfl)))))))))))))))))))))))))))))))))))))))))))))))))))) rfl ?_
      refine ar_push rfl ?_
      refine ar_bink (z := 0) rfl (by decide) ?_
      refine ar_ret rfl rfl ?_
      show aRun _ (aCall Mt _) _ 61 (_, [_], _, _, _)
      refine ar_ret rfl rfl ?_
      refine ⟨_, 0, 0, _, rfl, Nat.zero_le _, Nat.zero_le _, (hs_ne (by decide) (hs_ne (by decide) (hs_ne (by decide) (hs_ne (by decide) (hs_ne (by decide) (hs_ne (by decide) (hs_ne (by decide) (hs_ne (by decide) (hs_ne (by decide) (hs_ne (by decide) (hs_ne (by decide) (hs_ne (by decide) (hs_ne (by decide) (hs_ne (by decide) (hs_ne (by decide) (hs_ne (by decide) (hs_ne (by decide) (hs_ne (by decide) (hs_ne (by decide) (hs_ne (by decide) (hs_ne (by decide) (hs_ne (by decide) (hs_ne (by decide) (hs_ne (by decide) (hs_ne (by decide) (hs_ne (by decide) (hs_ne (by decide) (hs_ne (by decide) (hs_ne (by decide) (hs_ne (by decide) (hs_ne (by decide) (hs_ne (by decide) (hs_ne (by decide) (hs_ne (by decide) (hs_ne (by decide) (hs_ne (by decide) (hs_ne (by decide) (hs_ne (by decide) (hs_ne (by decide) (hs_ne (by decide) (hs_ne (by decide) (hs_ne (by decide) (hs_ne (by decide) (hs_ne (by decide) (hs_ne (by decide) (hs_ne (by decide) (hs_ne (by decide) (hs_ne (by decide) (hs_ne (by decide) (hs_ne (by decide) (hs_ne (by decide) (hs_ne (by decide) rfl)))))))))))))))))))))))))))))))))))))))))))))))))))), ?_⟩
      refine rgen ((((((((((((((((((((((((((((((((((((((((((((((((((((rFr_F.sets (by decide)).sets (by decide)).sets (by decide)).sets (by decide)).sets (by decide)).sets (by decide)).sets (by decide)).sets (by decide)).sets (by decide)).sets (by decide)).sets (by decide)).sets (by decide)).sets (by decide)).sets (by decide)).sets (by decide)).sets (by decide)).sets (by decide)).sets (by decide)).sets (by decide)).sets (by decide)).sets (by decide)).sets (by decide)).sets (by decide)).sets (by decide)).sets (by decide)).sets (by decide)).sets (by decide)).sets (by decide)).sets (by decide)).sets (by decide)).sets (by decide)).sets (by decide)).sets (by decide)).sets (by decide)).sets (by decide)).sets (by decide)).sets (by decide)).sets (by decide)).sets (by decide)).sets (by decide)).sets (by decide)).sets (by decide)).sets (by decide)).sets (by decide)).sets (by decide)).sets (by decide)).sets (by decide)).sets (by decide)).sets (by decide)).sets (by decide)).sets (by decide)).sets (by decide)) (fun g hr => ?_)
      refine ac_ink [some (.inr (.inr (some 69))), some (.inl _), some (.inl _), none] mt_191 (Nat.le_of_ble_eq_true rfl) rfl ?_
      refine ar_ldI rfl rfl ?_
      refine ar_push rfl ?_
      refine ar_push rfl ?_
      refine ar_callv rfl rfl (Nat.le_of_ble_eq_true rfl) (Nat.le_of_ble_eq_true rfl) rfl (sp_in _ _ _ _ _) ?_
      refine ar_if1f rfl (bi_e0f c1) ?_
      refine ar_ldI rfl rfl ?_
      refine ar_push rfl ?_
      refine ar_push rfl ?_
      refine ar_callv rfl rfl (Nat.le_of_ble_eq_true rfl) (Nat.le_of_ble_eq_true rfl) rfl (sp_in _ _ _ _ _) ?_
      refine ar_if1t rfl (bi_n0t c2) ?_
      refine ar_ldA rfl rfl ?_
      refine ar_get rfl (hr.at 69 (by decide) (by decide) rfl) rfl ?_
      refine ar_push rfl ?_
      refine ar_if2t rfl (by decide) ?_
      refine ar_ldA rfl rfl ?_
      refine ar_get rfl (hr.at 69 (by decide) (by decide) rfl) rfl ?_
      refine ar_ldA rfl rfl ?_
      refine ar_get rfl (hr.at 69 (by decide) (by decide) rfl) rfl ?_
      refine ar_ldI rfl rfl ?_
      refine ar_ast rfl (hr.at 70 (by decide) (by decide) rfl) (by decide) (Nat.le_of_ble_eq_true rfl) ?_
      refine ar_ldA rfl rfl ?_
      refine ar_get rfl (hs_ne (by decide) (hr.at 69 (by decide) (by decide) rfl)) rfl ?_
      refine ar_ldA rfl rfl ?_
      refine ar_get rfl (hs_ne (by decide) (hr.at 69 (by decide) (by decide) rfl)) rfl ?_
      refine ar_ldI rfl rfl ?_
      refine ar_ast rfl (hs_ne (by decide) (hr.at 71 (by decide) (by decide) rfl)) (by decide) (Nat.le_of_ble_eq_true rfl) ?_
      refine ar_ldA rfl rfl ?_
      refine ar_dup rfl rfl ?_
      refine ar_get rfl (hs_ne (by decide) (hs_ne (by decide) (hr.at 69 (by decide) (by decide) rfl))) rfl ?_
      refine ar_push rfl ?_
      refine ar_bink (z := 1) rfl (by decide) ?_
      refine ar_put rfl (hs_ne (by decide) (hs_ne (by decide) (hr.at 69 (by decide) (by decide) rfl))) (Nat.le_of_ble_eq_true rfl) rfl ?_
      refine ar_push rfl ?_
      refine ar_svIk [some (.inr (.inr (some 69))), some (.inl _), some (.inl _), some (.inl 0)] rfl rfl ?_
      refine ar_ldI rfl rfl ?_
      refine ar_push rfl ?_
      refine ar_if2f rfl (by decide) ?_
      refine ar_ldA rfl rfl ?_
      refine ar_get rfl (hs_eq (hs_ne (by decide) (hs_ne (by decide) (hr.at 69 (by decide) (by decide) rfl)))) rfl ?_
      refine ar_ldI rfl rfl ?_
      refine ar_push rfl ?_
      refine ar_ast rfl (hs_ne (by decide) (hs_ne (by decide) (hs_ne (by decide) (hr.at 81 (by decide) (by decide) rfl)))) (by decide) (Nat.le_of_ble_eq_true rfl) ?_
      refine ar_incl (z := 1) [some (.inr (.inr (some 69))), some (.inl _), some (.inl _), some (.inl 1)] rfl rfl (by decide) rfl ?_
      refine ar_go rfl ?_
      refine ar_ldI rfl rfl ?_
      refine ar_push rfl ?_
      refine ar_if2f rfl (by decide) ?_
      refine ar_ldA rfl rfl ?_
      refine ar_get rfl (hs_ne (by decide) (hs_eq (hs_ne (by decide) (hs_ne (by decide) (hr.at 69 (by decide) (by decide) rfl))))) rfl ?_
      refine ar_ldI rfl rfl ?_
      refine ar_push rfl ?_
      refine ar_ast rfl (hs_eq (hs_ne (by decide) (hs_ne (by decide) (hs_ne (by decide) (hr.at 81 (by decide) (by decide) rfl))))) (by decide) (Nat.le_of_ble_eq_true rfl) ?_
      refine ar_incl (z := 2) [some (.inr (.inr (some 69))), some (.inl _), some (.inl _), some (.inl 2)] rfl rfl (by decide) rfl ?_
      refine ar_go rfl ?_
      refine ar_ldI rfl rfl ?_
      refine ar_push rfl ?_
      refine ar_if2f rfl (by decide) ?_
      refine ar_ldA rfl rfl ?_
      refine ar_get rfl (hs_ne (by decide) (hs_ne (by decide) (hs_eq (hs_ne (by decide) (hs_ne (by decide) (hr.at 69 (by decide) (by decide) rfl)))))) rfl ?_
      refine ar_ldI rfl rfl ?_
      refine ar_push rfl ?_
      refine ar_ast rfl (hs_eq (hs_eq (hs_ne (by decide) (hs_ne (by decide) (hs_ne (by decide) (hr.at 81 (by decide) (by decide) rfl)))))) (by decide) (Nat.le_of_ble_eq_true rfl) ?_
      refine ar_incl (z := 3) [some (.inr (.inr (some 69))), some (.inl _), some (.inl _), some (.inl 3)] rfl rfl (by decide) rfl ?_
      refine ar_go rfl ?_
      refine ar_ldI rfl rfl ?_
      refine ar_push rfl ?_
      refine ar_if2f rfl (by decide) ?_
      refine ar_ldA rfl rfl ?_
      refine ar_get rfl (hs_ne (by decide) (hs_ne (by decide) (hs_ne (by decide) (hs_eq (hs_ne (by decide) (hs_ne (by decide) (hr.at 69 (by decide) (by decide) rfl))))))) rfl ?_
      refine ar_ldI rfl rfl ?_
      refine ar_push rfl ?_
      refine ar_ast rfl (hs_eq (hs_eq (hs_eq (hs_ne (by decide) (hs_ne (by decide) (hs_ne (by decide) (hr.at 81 (by decide) (by decide) rfl))))))) (by decide) (Nat.le_of_ble_eq_true rfl) ?_
      refine ar_incl (z := 4) [some (.inr (.inr (some 69))), some (.inl _), some (.inl _), some (.inl 4)] rfl rfl (by decide) rfl ?_
      refine ar_go rfl ?_
      refine ar_ldI rfl rfl ?_
      refine ar_push rfl ?_
      refine ar_if2f rfl (by decide) ?_
      refine ar_ldA rfl rfl ?_
      refine ar_get rfl (hs_ne (by decide) (hs_ne (by decide) (hs_ne (by decide) (hs_ne (by decide) (hs_eq (hs_ne (by decide) (hs_ne (by decide) (hr.at 69 (by decide) (by decide) rfl)))))))) rfl ?_
      refine ar_ldI rfl rfl ?_
      refine ar_push rfl ?_
      refine ar_ast rfl (hs_eq (hs_eq (hs_eq (hs_eq (hs_ne (by decide) (hs_ne (by decide) (hs_ne (by decide) (hr.at 81 (by decide) (by decide) rfl)))))))) (by decide) (Nat.le_of_ble_eq_true rfl) ?_
      refine ar_incl (z := 5) [some (.inr (.inr (some 69))), some (.inl _), some (.inl _), some (.inl 5)] rfl rfl (by decide) rfl ?_
      refine ar_go rfl ?_
      refine ar_ldI rfl rfl ?_
      refine ar_push rfl ?_
      refine ar_if2f rfl (by decide) ?_
      refine ar_ldA rfl rfl ?_
      refine ar_get rfl (hs_ne (by decide) (hs_ne (by decide) (hs_ne (by decide) (hs_ne (by decide) (hs_ne (by decide) (hs_eq (hs_ne (by decide) (hs_ne (by decide) (hr.at 69 (by decide) (by decide) rfl))))))))) rfl ?_
      refine ar_ldI rfl rfl ?_
      refine ar_push rfl ?_
      refine ar_ast rfl (hs_eq (hs_eq (hs_eq (hs_eq (hs_eq (hs_ne (by decide) (hs_ne (by decide) (hs_ne (by decide) (hr.at 81 (by decide) (by decide) rfl))))))))) (by decide) (Nat.le_of_ble_eq_true rfl) ?_
      refine ar_incl (z := 6) [some (.inr (.inr (some 69))), some (.inl _), some (.inl _), some (.inl 6)] rfl rfl (by decide) rfl ?_
      refine ar_go rfl ?_
      refine ar_ldI rfl rfl ?_
      refine ar_push rfl ?_
      refine ar_if2f rfl (by decide) ?_
      refine ar_ldA rfl rfl ?_
      refine ar_get rfl (hs_ne (by decide) (hs_ne (by decide) (hs_ne (by decide) (hs_ne (by decide) (hs_ne (by decide) (hs_ne (by decide) (hs_eq (hs_ne (by decide) (hs_ne (by decide) (hr.at 69 (by decide) (by decide) rfl)))))))))) rfl ?_
      refine ar_ldI rfl rfl ?_
      refine ar_push rfl ?_
      refine ar_ast rfl (hs_eq (hs_eq (hs_eq (hs_eq (hs_eq (hs_eq (hs_ne (by decide) (hs_ne (by decide) (hs_ne (by decide) (hr.at 81 (by decide) (by decide) rfl)))))))))) (by decide) (Nat.le_of_ble_eq_true rfl) ?_
      refine ar_incl (z := 7) [some (.inr (.inr (some 69))), some (.inl _), some (.inl _), some (.inl 7)] rfl rfl (by decide) rfl ?_
      refine ar_go rfl ?_
      refine ar_ldI rfl rfl ?_
      refine ar_push rfl ?_
      refine ar_if2f rfl (by decide) ?_
      refine ar_ldA rfl rfl ?_
      refine ar_get rfl (hs_ne (by decide) (hs_ne (by decide) (hs_ne (by decide) (hs_ne (by decide) (hs_ne (by decide) (hs_ne (by decide) (hs_ne (by decide) (hs_eq (hs_ne (by decide) (hs_ne (by decide) (hr.at 69 (by decide) (by decide) rfl))))))))))) rfl ?_
      refine ar_ldI rfl rfl ?_
      refine ar_push rfl ?_
      refine ar_ast rfl (hs_eq (hs_eq (hs_eq (hs_eq (hs_eq (hs_eq (hs_eq (hs_ne (by decide) (hs_ne (by decide) (hs_ne (by decide) (hr.at 81 (by decide) (by decide) rfl))))))))))) (by decide) (Nat.le_of_ble_eq_true rfl) ?_
      refine ar_incl (z := 8) [some (.inr (.inr (some 69))), some (.inl _), some (.inl _), some (.inl 8)] rfl rfl (by decide) rfl ?_
      refine ar_go rfl ?_
      refine ar_ldI rfl rfl ?_
      refine ar_push rfl ?_
      refine ar_if2f rfl (by decide) ?_
      refine ar_ldA rfl rfl ?_
      refine ar_get rfl (hs_ne (by decide) (hs_ne (by decide) (hs_ne (by decide) (hs_ne (by decide) (hs_ne (by decide) (hs_ne (by decide) (hs_ne (by decide) (hs_ne (by decide) (hs_eq (hs_ne (by decide) (hs_ne (by decide) (hr.at 69 (by decide) (by decide) rfl)))))))))))) rfl ?_
      refine ar_ldI rfl rfl ?_
      refine ar_push rfl ?_
      refine ar_ast rfl (hs_eq (hs_eq (hs_eq (hs_eq (hs_eq (hs_eq (hs_eq (hs_eq (hs_ne (by decide) (hs_ne (by decide) (hs_ne (by decide) (hr.at 81 (by decide) (by decide) rfl)))))))))))) (by decide) (Nat.le_of_ble_eq_true rfl) ?_
      refine ar_incl (z := 9) [some (.inr (.inr (some 69))), some (.inl _), some (.inl _), some (.inl 9)] rfl rfl (by decide) rfl ?_
      refine ar_go rfl ?_
      refine ar_ldI rfl rfl ?_
      refine ar_push rfl ?_
      refine ar_if2f rfl (by decide) ?_
      refine ar_ldA rfl rfl ?_
      refine ar_get rfl (hs_ne (by decide) (hs_ne (by decide) (hs_ne (by decide) (hs_ne (by decide) (hs_ne (by decide) (hs_ne (by decide) (hs_ne (by decide) (hs_ne (by decide) (hs_ne (by decide) (hs_eq (hs_ne (by decide) (hs_ne (by decide) (hr.at 69 (by decide) (by decide) rfl))))))))))))) rfl ?_
      refine ar_ldI rfl rfl ?_
      refine ar_push rfl ?_
      refine ar_ast rfl (hs_eq (hs_eq (hs_eq (hs_eq (hs_eq (hs_eq (hs_eq (hs_eq (hs_eq (hs_ne (by decide) (hs_ne (by decide) (hs_ne (by decide) (hr.at 81 (by decide) (by decide) rfl))))))))))))) (by decide) (Nat.le_of_ble_eq_true rfl) ?_
      refine ar_incl (z := 10) [some (.inr (.inr (some 69))), some (.inl _), some (.inl _), some (.inl 10)] rfl rfl (by decide) rfl ?_
      refine ar_go rfl ?_
      refine ar_ldI rfl rfl ?_
      refine ar_push rfl ?_
      refine ar_if2f rfl (by decide) ?_
      refine ar_ldA rfl rfl ?_
      refine ar_get rfl (hs_ne (by decide) (hs_ne (by decide) (hs_ne (by decide) (hs_ne (by decide) (hs_ne (by decide) (hs_ne (by decide) (hs_ne (by decide) (hs_ne (by decide) (hs_ne (by decide) (hs_ne (by decide) (hs_eq (hs_ne (by decide) (hs_ne (by decide) (hr.at 69 (by decide) (by decide) rfl)))))))))))))) rfl ?_
      refine ar_ldI rfl rfl ?_
      refine ar_push rfl ?_
      refine ar_ast rfl (hs_eq (hs_eq (hs_eq (hs_eq (hs_eq (hs_eq (hs_eq (hs_eq (hs_eq (hs_eq (hs_ne (by decide) (hs_ne (by decide) (hs_ne (by decide) (hr.at 81 (by decide) (by decide) rfl)))))))))))))) (by decide) (Nat.le_of_ble_eq_true rfl) ?_
      refine ar_incl (z := 11) [some (.inr (.inr (some 69))), some (.inl _), some (.inl _), some (.inl 11)] rfl rfl (by decide) rfl ?_
      refine ar_go rfl ?_
      refine ar_ldI rfl rfl ?_
      refine ar_push rfl ?_
      refine ar_if2f rfl (by decide) ?_
      refine ar_ldA rfl rfl ?_
      refine ar_get rfl (hs_ne (by decide) (hs_ne (by decide) (hs_ne (by decide) (hs_ne (by decide) (hs_ne (by decide) (hs_ne (by decide) (hs_ne (by decide) (hs_ne (by decide) (hs_ne (by decide) (hs_ne (by decide) (hs_ne (by decide) (hs_eq (hs_ne (by decide) (hs_ne (by decide) (hr.at 69 (by decide) (by decide) rfl))))))))))))))) rfl ?_
      refine ar_ldI rfl rfl ?_
      refine ar_push rfl ?_
      refine ar_ast rfl (hs_eq (hs_eq (hs_eq (hs_eq (hs_eq (hs_eq (hs_eq (hs_eq (hs_eq (hs_eq (hs_eq (hs_ne (by decide) (hs_ne (by decide) (hs_ne (by decide) (hr.at 81 (by decide) (by decide) rfl))))))))))))))) (by decide) (Nat.le_of_ble_eq_true rfl) ?_
      refine ar_incl (z := 12) [some (.inr (.inr (some 69))), some (.inl _), some (.inl _), some (.inl 12)] rfl rfl (by decide) rfl ?_
      refine ar_go rfl ?_
      refine ar_ldI rfl rfl ?_
      refine ar_push rfl ?_
      refine ar_if2t rfl (by decide) ?_
      refine ar_ldA rfl rfl ?_
      refine ar_get rfl (hs_ne (by decide) (hs_ne (by decide) (hs_ne (by decide) (hs_ne (by decide) (hs_ne (by decide) (hs_ne (by decide) (hs_ne (by decide) (hs_ne (by decide) (hs_ne (by decide) (hs_ne (by decide) (hs_ne (by decide) (hs_ne (by decide) (hs_eq (hs_ne (by decide) (hs_ne (by decide) (hr.at 69 (by decide) (by decide) rfl)))))))))))))))) rfl ?_
      refine ar_push rfl ?_
      refine ar_bink (z := 0) rfl (by decide) ?_
      refine ar_ret rfl rfl ?_
      exact ⟨rfl, hJ _ _ _⟩
    · refine ar_push rfl ?_
      refine ar_ret rfl rfl ?_
      refine ⟨_, 0, 0, _, rfl, Nat.zero_le _, Nat.zero_le _, rfl, ?_⟩
      refine rgen rFr_F (fun g hr => ?_)
      refine ac_ink [some (.inr (.inr (some 69))), some (.inl _), some (.inl _), none] mt_191 (Nat.le_of_ble_eq_true rfl) rfl ?_
      refine ar_ldI rfl rfl ?_
      refine ar_push rfl ?_
      refine ar_push rfl ?_
      refine ar_callv rfl rfl (Nat.le_of_ble_eq_true rfl) (Nat.le_of_ble_eq_true rfl) rfl (sp_in _ _ _ _ _) ?_
      refine ar_if1f rfl (bi_e0f c1) ?_
      refine ar_ldI rfl rfl ?_
      refine ar_push rfl ?_
      refine ar_push rfl ?_
      refine ar_callv rfl rfl (Nat.le_of_ble_eq_true rfl) (Nat.le_of_ble_eq_true rfl) rfl (sp_in _ _ _ _ _) ?_
      refine ar_if1f rfl (bi_n0f c2) ?_
      refine ar_push rfl ?_
      refine ar_ret rfl rfl ?_
      exact ⟨rfl, hJ _ _ _⟩

set_option maxRecDepth 20000 in
set_option maxHeartbeats 4000000 in
theorem p1_6 (x1 : Int32) (x2 : Int32) (J : aH → Nat → Nat → Prop) (hJ : ∀ h a b, J h a b) (kc ks : Nat) (hkc : 1000 ≤ kc) (hks : 100000 ≤ ks) : aPairI 0 69 130 212 [.inl x1, .inl x2] J hF kc ks := by
  refine ⟨0, 0, _, by omega, by omega, rfl, ?_⟩
  refine ac_ink [some (.inr (.inr (some 0))), some (.inl _), some (.inl _)] mt_130 (Nat.le_of_ble_eq_true rfl) rfl ?_
  refine ar_ldI rfl rfl ?_
  refine ar_push rfl ?_
  refine ar_push rfl ?_
  refine ar_callv rfl rfl (Nat.le_of_ble_eq_true rfl) (Nat.le_of_ble_eq_true rfl) rfl (sp_within _ _ _ _ _) ?_
  refine ar_neB rfl (fun c1 => ?_) (fun c1 => ?_)
  · have wc1 := wi_to c1
    have lc1 : ((1) : Int32).toInt = 1 := by decide
    have rc1 : ((4) : Int32).toInt = 4 := by decide
    rcases (show x1.toInt = 1 ∨ x1.toInt = 2 ∨ x1.toInt = 3 ∨ x1.toInt = 4 by omega) with nc1 | nc1 | nc1 | nc1
    · cases en_of nc1 (show ((1) : Int32).toInt = 1 by decide)
      refine ar_ldA rfl rfl ?_
      refine ar_get rfl rfl rfl ?_
      refine ar_ldI rfl rfl ?_
      refine ar_inl (mc := 0) (ms := 0) rfl (rcv_of rfl) (Nat.le_of_ble_eq_true rfl) (Nat.le_of_ble_eq_true rfl) (by omega) (by omega) ?_
      refine ac_ink [some (.inr (.inr (some 5))), some (.inl 1)] mt_92 (Nat.le_of_ble_eq_true rfl) rfl ?_
      refine ar_ldA rfl rfl ?_
      refine ar_get rfl rfl rfl ?_
      refine ar_ldI rfl rfl ?_
      refine ar_bink (z := 1) rfl (by decide) ?_
      refine ar_push rfl ?_
      refine ar_if2f rfl (by decide) ?_
      refine ar_push rfl ?_
      refine ar_go rfl ?_
      refine ar_ret rfl rfl ?_
      show aRun _ (aCall Mt _) _ 19 (_, [_], _, _, _)
      refine ar_if1t rfl (by decide) ?_
      refine ar_ldA rfl rfl ?_
      refine ar_get rfl rfl rfl ?_
      refine ar_ldI rfl rfl ?_
      refine ar_ldI rfl rfl ?_
      refine ar_inl (mc := 0) (ms := 0) rfl (rcv_of rfl) (Nat.le_of_ble_eq_true rfl) (Nat.le_of_ble_eq_true rfl) (by omega) (by omega) ?_
      refine ac_ink [some (.inr (.inr (some 5))), some (.inl 1), some (.inl _), none] mt_93 (Nat.le_of_ble_eq_true rfl) rfl ?_
      refine ar_push rfl ?_
      refine ar_svIk [some (.inr (.inr (some 5))), some (.inl 1), some (.inl _), some (.inl 0)] rfl rfl ?_
      refine ar_ldI rfl rfl ?_
      refine ar_ldI rfl rfl ?_
      refine ar_if2f rfl (by decide) ?_
      refine ar_ldA rfl rfl ?_
      refine ar_get rfl rfl rfl ?_
      refine ar_push rfl ?_
      refine ar_if2f rfl (by decide) ?_
      refine ar_ldA rfl rfl ?_
      refine ar_get rfl rfl rfl ?_
      refine ar_ldA rfl rfl ?_
      refine ar_get rfl rfl rfl ?_
      refine ar_ldI rfl rfl ?_
      refine ar_push rfl ?_
      refine ar_ldI rfl rfl ?_
      refine ar_bink (z := 0) rfl (by decide) ?_
      refine ar_bin rfl ?_
      refine ar_push rfl ?_
      refine ar_bin rfl ?_
      refine ar_ast rfl rfl (by decide) (Nat.le_of_ble_eq_true rfl) ?_
      refine ar_ldA rfl rfl ?_
      refine ar_dup rfl rfl ?_
      refine ar_get rfl (hs_ne (by decide) rfl) rfl ?_
      refine ar_push rfl ?_
      refine ar_bink (z := 1) rfl (by decide) ?_
      refine ar_put rfl (hs_ne (by decide) rfl) (Nat.le_of_ble_eq_true rfl) rfl ?_
      refine ar_incl (z := 1) [some (.inr (.inr (some 5))), some (.inl 1), some (.inl _), some (.inl 1)] rfl rfl (by decide) rfl ?_
      refine ar_go rfl ?_
      refine ar_ldI rfl rfl ?_
      refine ar_ldI rfl rfl ?_
      refine ar_if2t rfl (by decide) ?_
      refine ar_ldA rfl rfl ?_
      refine ar_get rfl (hs_eq (hs_ne (by decide) rfl)) rfl ?_
      refine ar_ret rfl rfl ?_
      show aRun _ (aCall Mt _) _ 34 (_, [_], _, _, _)
      refine ar_ret rfl rfl ?_
      refine ⟨_, 0, 0, _, rfl, Nat.zero_le _, Nat.zero_le _, (hs_ne (by decide) (hs_ne (by decide) rfl)), ?_⟩
      refine rgen ((rFr_F.sets (by decide)).sets (by decide)) (fun g hr => ?_)
      refine ac_ink [some (.inr (.inr (some 69))), some (.inl 1), some (.inl _), none] mt_212 (Nat.le_of_ble_eq_true rfl) rfl ?_
      refine ar_ldI rfl rfl ?_
      refine ar_push rfl ?_
      refine ar_push rfl ?_
      refine ar_callv rfl rfl (Nat.le_of_ble_eq_true rfl) (Nat.le_of_ble_eq_true rfl) rfl (sp_in _ _ _ _ _) ?_
      refine ar_if1t rfl (bi_n0t (by decide)) ?_
      refine ar_ldA rfl rfl ?_
      refine ar_get rfl (hr.at 69 (by decide) (by decide) rfl) rfl ?_
      refine ar_ldI rfl rfl ?_
      refine ar_bink (z := 1) rfl (by decide) ?_
      refine ar_push rfl ?_
      refine ar_if2t rfl (by decide) ?_
      refine ar_push rfl ?_
      refine ar_svIk [some (.inr (.inr (some 69))), some (.inl 1), some (.inl _), some (.inl 0)] rfl rfl ?_
      refine ar_ldI rfl rfl ?_
      refine ar_ldI rfl rfl ?_
      refine ar_if2f rfl (by decide) ?_
      refine ar_ldA rfl rfl ?_
      refine ar_get rfl (hr.at 69 (by decide) (by decide) rfl) rfl ?_
      refine ar_ldA rfl rfl ?_
      refine ar_get rfl (hr.at 69 (by decide) (by decide) rfl) rfl ?_
      refine ar_ldI rfl rfl ?_
      refine ar_push rfl ?_
      refine ar_ldI rfl rfl ?_
      refine ar_bink (z := 0) rfl (by decide) ?_
      refine ar_bin rfl ?_
      refine ar_un rfl ?_
      refine ar_ast rfl (hr.at 82 (by decide) (by decide) rfl) (by decide) (Nat.le_of_ble_eq_true rfl) ?_
      refine ar_ldA rfl rfl ?_
      refine ar_dup rfl rfl ?_
      refine ar_get rfl (hs_ne (by decide) (hr.at 69 (by decide) (by decide) rfl)) rfl ?_
      refine ar_push rfl ?_
      refine ar_bink (z := 1) rfl (by decide) ?_
      refine ar_put rfl (hs_ne (by decide) (hr.at 69 (by decide) (by decide) rfl)) (Nat.le_of_ble_eq_true rfl) rfl ?_
      refine ar_incl (z := 1) [some (.inr (.inr (some 69))), some (.inl 1), some (.inl _), some (.inl 1)] rfl rfl (by decide) rfl ?_
      refine ar_go rfl ?_
      refine ar_ldI rfl rfl ?_
      refine ar_ldI rfl rfl ?_
      refine ar_if2t rfl (by decide) ?_
      refine ar_ldA rfl rfl ?_
      refine ar_get rfl (hs_eq (hs_ne (by decide) (hr.at 69 (by decide) (by decide) rfl))) rfl ?_
      refine ar_ret rfl rfl ?_
      exact ⟨rfl, hJ _ _ _⟩
    · cases en_of nc1 (show ((2) : Int32).toInt = 2 by decide)
      refine ar_ldA rfl rfl ?_
      refine ar_get rfl rfl rfl ?_
      refine ar_ldI rfl rfl ?_
      refine ar_inl (mc := 0) (ms := 0) rfl (rcv_of rfl) (Nat.le_of_ble_eq_true rfl) (Nat.le_of_ble_eq_true rfl) (by omega) (by omega) ?_
      refine ac_ink [some (.inr (.inr (some 5))), some (.inl 2)] mt_92 (Nat.le_of_ble_eq_true rfl) rfl ?_
      refine ar_ldA rfl rfl ?_
      refine ar_get rfl rfl rfl ?_
      refine ar_ldI rfl rfl ?_
      refine ar_bink (z := 2) rfl (by decide) ?_
      refine ar_push rfl ?_
      refine ar_if2f rfl (by decide) ?_
      refine ar_push rfl ?_
      refine ar_go rfl ?_
      refine ar_ret rfl rfl ?_
      show aRun _ (aCall Mt _) _ 19 (_, [_], _, _, _)
      refine ar_if1t rfl (by decide) ?_
      refine ar_ldA rfl rfl ?_
      refine ar_get rfl rfl rfl ?_
      refine ar_ldI rfl rfl ?_
      refine ar_ldI rfl rfl ?_
      refine ar_inl (mc := 0) (ms := 0) rfl (rcv_of rfl) (Nat.le_of_ble_eq_true rfl) (Nat.le_of_ble_eq_true rfl) (by omega) (by omega) ?_
      refine ac_ink [some (.inr (.inr (some 5))), some (.inl 2), some (.inl _), none] mt_93 (Nat.le_of_ble_eq_true rfl) rfl ?_
      refine ar_push rfl ?_
      refine ar_svIk [some (.inr (.inr (some 5))), some (.inl 2), some (.inl _), some (.inl 0)] rfl rfl ?_
      refine ar_ldI rfl rfl ?_
      refine ar_ldI rfl rfl ?_
      refine ar_if2f rfl (by decide) ?_
      refine ar_ldA rfl rfl ?_
      refine ar_get rfl rfl rfl ?_
      refine ar_push rfl ?_
      refine ar_if2f rfl (by decide) ?_
      refine ar_ldA rfl rfl ?_
      refine ar_get rfl rfl rfl ?_
      refine ar_ldA rfl rfl ?_
      refine ar_get rfl rfl rfl ?_
      refine ar_ldI rfl rfl ?_
      refine ar_push rfl ?_
      refine ar_ldI rfl rfl ?_
      refine ar_bink (z := 0) rfl (by decide) ?_
      refine ar_bin rfl ?_
      refine ar_push rfl ?_
      refine ar_bin rfl ?_
      refine ar_ast rfl rfl (by decide) (Nat.le_of_ble_eq_true rfl) ?_
      refine ar_ldA rfl rfl ?_
      refine ar_dup rfl rfl ?_
      refine ar_get rfl (hs_ne (by decide) rfl) rfl ?_
      refine ar_push rfl ?_
      refine ar_bink (z := 1) rfl (by decide) ?_
      refine ar_put rfl (hs_ne (by decide) rfl) (Nat.le_of_ble_eq_true rfl) rfl ?_
      refine ar_incl (z := 1) [some (.inr (.inr (some 5))), some (.inl 2), some (.inl _), some (.inl 1)] rfl rfl (by decide) rfl ?_
      refine ar_go rfl ?_
      refine ar_ldI rfl rfl ?_
      refine ar_ldI rfl rfl ?_
      refine ar_if2f rfl (by decide) ?_
      refine ar_ldA rfl rfl ?_
      refine ar_get rfl (hs_eq (hs_ne (by decide) rfl)) rfl ?_
      refine ar_push rfl ?_
      refine ar_if2f rfl (by decide) ?_
      refine ar_ldA rfl rfl ?_
      refine ar_get rfl (hs_eq (hs_ne (by decide) rfl)) rfl ?_
      refine ar_ldA rfl rfl ?_
      refine ar_get rfl (hs_eq (hs_ne (by decide) rfl)) rfl ?_
      refine ar_ldI rfl rfl ?_
      refine ar_push rfl ?_
      refine ar_ldI rfl rfl ?_
      refine ar_bink (z := 8) rfl (by decide) ?_
      refine ar_bin rfl ?_
      refine ar_push rfl ?_
      refine ar_bin rfl ?_
      refine ar_ast rfl (hs_ne (by decide) (hs_eq rfl)) (by decide) (Nat.le_of_ble_eq_true rfl) ?_
      refine ar_ldA rfl rfl ?_
      refine ar_dup rfl rfl ?_
      refine ar_get rfl (hs_ne (by decide) (hs_eq (hs_ne (by decide) rfl))) rfl ?_
      refine ar_push rfl ?_
      refine ar_bink (z := 2) rfl (by decide) ?_
      refine ar_put rfl (hs_ne (by decide) (hs_eq (hs_ne (by decide) rfl))) (Nat.le_of_ble_eq_true rfl) rfl ?_
      refine ar_incl (z := 2) [some (.inr (.inr (some 5))), some (.inl 2), some (.inl _), some (.inl 2)] rfl rfl (by decide) rfl ?_
      refine ar_go rfl ?_
      refine ar_ldI rfl rfl ?_
      refine ar_ldI rfl rfl ?_
      refine ar_if2t rfl (by decide) ?_
      refine ar_ldA rfl rfl ?_
      refine ar_get rfl (hs_eq (hs_ne (by decide) (hs_eq (hs_ne (by decide) rfl)))) rfl ?_
      refine ar_ret rfl rfl ?_
      show aRun _ (aCall Mt _) _ 34 (_, [_], _, _, _)
      refine ar_ret rfl rfl ?_
      refine ⟨_, 0, 0, _, rfl, Nat.zero_le _, Nat.zero_le _, (hs_ne (by decide) (hs_ne (by decide) (hs_ne (by decide) (hs_ne (by decide) rfl)))), ?_⟩
      refine rgen ((((rFr_F.sets (by decide)).sets (by decide)).sets (by decide)).sets (by decide)) (fun g hr => ?_)
      refine ac_ink [some (.inr (.inr (some 69))), some (.inl 2), some (.inl _), none] mt_212 (Nat.le_of_ble_eq_true rfl) rfl ?_
      refine ar_ldI rfl rfl ?_
      refine ar_push rfl ?_
      refine ar_push rfl ?_
      refine ar_callv rfl rfl (Nat.le_of_ble_eq_true rfl) (Nat.le_of_ble_eq_true rfl) rfl (sp_in _ _ _ _ _) ?_
      refine ar_if1t rfl (bi_n0t (by decide)) ?_
      refine ar_ldA rfl rfl ?_
      refine ar_get rfl (hr.at 69 (by decide) (by decide) rfl) rfl ?_
      refine ar_ldI rfl rfl ?_
      refine ar_bink (z := 2) rfl (by decide) ?_
      refine ar_push rfl ?_
      refine ar_if2t rfl (by decide) ?_
      refine ar_push rfl ?_
      refine ar_svIk [some (.inr (.inr (some 69))), some (.inl 2), some (.inl _), some (.inl 0)] rfl rfl ?_
      refine ar_ldI rfl rfl ?_
      refine ar_ldI rfl rfl ?_
      refine ar_if2f rfl (by decide) ?_
      refine ar_ldA rfl rfl ?_
      refine ar_get rfl (hr.at 69 (by decide) (by decide) rfl) rfl ?_
      refine ar_ldA rfl rfl ?_
      refine ar_get rfl (hr.at 69 (by decide) (by decide) rfl) rfl ?_
      refine ar_ldI rfl rfl ?_
      refine ar_push rfl ?_
      refine ar_ldI rfl rfl ?_
      refine ar_bink (z := 0) rfl (by decide) ?_
      refine ar_bin rfl ?_
      refine ar_un rfl ?_
      refine ar_ast rfl (hr.at 82 (by decide) (by decide) rfl) (by decide) (Nat.le_of_ble_eq_true rfl) ?_
      refine ar_ldA rfl rfl ?_
      refine ar_dup rfl rfl ?_
      refine ar_get rfl (hs_ne (by decide) (hr.at 69 (by decide) (by decide) rfl)) rfl ?_
      refine ar_push rfl ?_
      refine ar_bink (z := 1) rfl (by decide) ?_
      refine ar_put rfl (hs_ne (by decide) (hr.at 69 (by decide) (by decide) rfl)) (Nat.le_of_ble_eq_true rfl) rfl ?_
      refine ar_incl (z := 1) [some (.inr (.inr (some 69))), some (.inl 2), some (.inl _), some (.inl 1)] rfl rfl (by decide) rfl ?_
      refine ar_go rfl ?_
      refine ar_ldI rfl rfl ?_
      refine ar_ldI rfl rfl ?_
      refine ar_if2f rfl (by decide) ?_
      refine ar_ldA rfl rfl ?_
      refine ar_get rfl (hs_eq (hs_ne (by decide) (hr.at 69 (by decide) (by decide) rfl))) rfl ?_
      refine ar_ldA rfl rfl ?_
      refine ar_get rfl (hs_eq (hs_ne (by decide) (hr.at 69 (by decide) (by decide) rfl))) rfl ?_
      refine ar_ldI rfl rfl ?_
      refine ar_push rfl ?_
      refine ar_ldI rfl rfl ?_
      refine ar_bink (z := 8) rfl (by decide) ?_
      refine ar_bin rfl ?_
      refine ar_un rfl ?_
      refine ar_ast rfl (hs_ne (by decide) (hs_eq (hr.at 82 (by decide) (by decide) rfl))) (by decide) (Nat.le_of_ble_eq_true rfl) ?_
      refine ar_ldA rfl rfl ?_
      refine ar_dup rfl rfl ?_
      refine ar_get rfl (hs_ne (by decide) (hs_eq (hs_ne (by decide) (hr.at 69 (by decide) (by decide) rfl)))) rfl ?_
      refine ar_push rfl ?_
      refine ar_bink (z := 2) rfl (by decide) ?_
      refine ar_put rfl (hs_ne (by decide) (hs_eq (hs_ne (by decide) (hr.at 69 (by decide) (by decide) rfl)))) (Nat.le_of_ble_eq_true rfl) rfl ?_
      refine ar_incl (z := 2) [some (.inr (.inr (some 69))), some (.inl 2), some (.inl _), some (.inl 2)] rfl rfl (by decide) rfl ?_
      refine ar_go rfl ?_
      refine ar_ldI rfl rfl ?_
      refine ar_ldI rfl rfl ?_
      refine ar_if2t rfl (by decide) ?_
      refine ar_ldA rfl rfl ?_
      refine ar_get rfl (hs_eq (hs_ne (by decide) (hs_eq (hs_ne (by decide) (hr.at 69 (by decide) (by decide) rfl))))) rfl ?_
      refine ar_ret rfl rfl ?_
      exact ⟨rfl, hJ _ _ _⟩
    · cases en_of nc1 (show ((3) : Int32).toInt = 3 by decide)
      refine ar_ldA rfl rfl ?_
      refine ar_get rfl rfl rfl ?_
      refine ar_ldI rfl rfl ?_
      refine ar_inl (mc := 0) (ms := 0) rfl (rcv_of rfl) (Nat.le_of_ble_eq_true rfl) (Nat.le_of_ble_eq_true rfl) (by omega) (by omega) ?_
      refine ac_ink [some (.inr (.inr (some 5))), some (.inl 3)] mt_92 (Nat.le_of_ble_eq_true rfl) rfl ?_
      refine ar_ldA rfl rfl ?_
      refine ar_get rfl rfl rfl ?_
      refine ar_ldI rfl rfl ?_
      refine ar_bink (z := 3) rfl (by decide) ?_
      refine ar_push rfl ?_
      refine ar_if2f rfl (by decide) ?_
      refine ar_push rfl ?_
      refine ar_go rfl ?_
      refine ar_ret rfl rfl ?_
      show aRun _ (aCall Mt _) _ 19 (_, [_], _, _, _)
      refine ar_if1t rfl (by decide) ?_
      refine ar_ldA rfl rfl ?_
      refine ar_get rfl rfl rfl ?_
      refine ar_ldI rfl rfl ?_
      refine ar_ldI rfl rfl ?_
      refine ar_inl (mc := 0) (ms := 0) rfl (rcv_of rfl) (Nat.le_of_ble_eq_true rfl) (Nat.le_of_ble_eq_true rfl) (by omega) (by omega) ?_
      refine ac_ink [some (.inr (.inr (some 5))), some (.inl 3), some (.inl _), none] mt_93 (Nat.le_of_ble_eq_true rfl) rfl ?_
      refine ar_push rfl ?_
      refine ar_svIk [some (.inr (.inr (some 5))), some (.inl 3), some (.inl _), some (.inl 0)] rfl rfl ?_
      refine ar_ldI rfl rfl ?_
      refine ar_ldI rfl rfl ?_
      refine ar_if2f rfl (by decide) ?_
      refine ar_ldA rfl rfl ?_
      refine ar_get rfl rfl rfl ?_
      refine ar_push rfl ?_
      refine ar_if2f rfl (by decide) ?_
      refine ar_ldA rfl rfl ?_
      refine ar_get rfl rfl rfl ?_
      refine ar_ldA rfl rfl ?_
      refine ar_get rfl rfl rfl ?_
      refine ar_ldI rfl rfl ?_
      refine ar_push rfl ?_
      refine ar_ldI rfl rfl ?_
      refine ar_bink (z := 0) rfl (by decide) ?_
      refine ar_bin rfl ?_
      refine ar_push rfl ?_
      refine ar_bin rfl ?_
      refine ar_ast rfl rfl (by decide) (Nat.le_of_ble_eq_true rfl) ?_
      refine ar_ldA rfl rfl ?_
      refine ar_dup rfl rfl ?_
      refine ar_get rfl (hs_ne (by decide) rfl) rfl ?_
      refine ar_push rfl ?_
      refine ar_bink (z := 1) rfl (by decide) ?_
      refine ar_put rfl (hs_ne (by decide) rfl) (Nat.le_of_ble_eq_true rfl) rfl ?_
      refine ar_incl (z := 1) [some (.inr (.inr (some 5))), some (.inl 3), some (.inl _), some (.inl 1)] rfl rfl (by decide) rfl ?_
      refine ar_go rfl ?_
      refine ar_ldI rfl rfl ?_
      refine ar_ldI rfl rfl ?_
      refine ar_if2f rfl (by decide) ?_
      refine ar_ldA rfl rfl ?_
      refine ar_get rfl (hs_eq (hs_ne (by decide) rfl)) rfl ?_
      refine ar_push rfl ?_
      refine ar_if2f rfl (by decide) ?_
      refine ar_ldA rfl rfl ?_
      refine ar_get rfl (hs_eq (hs_ne (by decide) rfl)) rfl ?_
      refine ar_ldA rfl rfl ?_
      refine ar_get rfl (hs_eq (hs_ne (by decide) rfl)) rfl ?_
      refine ar_ldI rfl rfl ?_
      refine ar_push rfl ?_
      refine ar_ldI rfl rfl ?_
      refine ar_bink (z := 8) rfl (by decide) ?_
      refine ar_bin rfl ?_
      refine ar_push rfl ?_
      refine ar_bin rfl ?_
      refine ar_ast rfl (hs_ne (by decide) (hs_eq rfl)) (by decide) (Nat.le_of_ble_eq_true rfl) ?_
      refine ar_ldA rfl rfl ?_
      refine ar_dup rfl rfl ?_
      refine ar_get rfl (hs_ne (by decide) (hs_eq (hs_ne (by decide) rfl))) rfl ?_
      refine ar_push rfl ?_
      refine ar_bink (z := 2) rfl (by decide) ?_
      refine ar_put rfl (hs_ne (by decide) (hs_eq (hs_ne (by decide) rfl))) (Nat.le_of_ble_eq_true rfl) rfl ?_
      refine ar_incl (z := 2) [some (.inr (.inr (some 5))), some (.inl 3), some (.inl _), some (.inl 2)] rfl rfl (by decide) rfl ?_
      refine ar_go rfl ?_
      refine ar_ldI rfl rfl ?_
      refine ar_ldI rfl rfl ?_
      refine ar_if2f rfl (by decide) ?_
      refine ar_ldA rfl rfl ?_
      refine ar_get rfl (hs_eq (hs_ne (by decide) (hs_eq (hs_ne (by decide) rfl)))) rfl ?_
      refine ar_push rfl ?_
      refine ar_if2f rfl (by decide) ?_
      refine ar_ldA rfl rfl ?_
      refine ar_get rfl (hs_eq (hs_ne (by decide) (hs_eq (hs_ne (by decide) rfl)))) rfl ?_
      refine ar_ldA rfl rfl ?_
      refine ar_get rfl (hs_eq (hs_ne (by decide) (hs_eq (hs_ne (by decide) rfl)))) rfl ?_
      refine ar_ldI rfl rfl ?_
      refine ar_push rfl ?_
      refine ar_ldI rfl rfl ?_
      refine ar_bink (z := 16) rfl (by decide) ?_
      refine ar_bin rfl ?_
      refine ar_push rfl ?_
      refine ar_bin rfl ?_
      refine ar_ast rfl (hs_ne (by decide) (hs_eq (hs_ne (by decide) (hs_eq rfl)))) (by decide) (Nat.le_of_ble_eq_true rfl) ?_
      refine ar_ldA rfl rfl ?_
      refine ar_dup rfl rfl ?_
      refine ar_get rfl (hs_ne (by decide) (hs_eq (hs_ne (by decide) (hs_eq (hs_ne (by decide) rfl))))) rfl ?_
      refine ar_push rfl ?_
      refine ar_bink (z := 3) rfl (by decide) ?_
      refine ar_put rfl (hs_ne (by decide) (hs_eq (hs_ne (by decide) (hs_eq (hs_ne (by decide) rfl))))) (Nat.le_of_ble_eq_true rfl) rfl ?_
      refine ar_incl (z := 3) [some (.inr (.inr (some 5))), some (.inl 3), some (.inl _), some (.inl 3)] rfl rfl (by decide) rfl ?_
      refine ar_go rfl ?_
      refine ar_ldI rfl rfl ?_
      refine ar_ldI rfl rfl ?_
      refine ar_if2t rfl (by decide) ?_
      refine ar_ldA rfl rfl ?_
      refine ar_get rfl (hs_eq (hs_ne (by decide) (hs_eq (hs_ne (by decide) (hs_eq (hs_ne (by decide) rfl)))))) rfl ?_
      refine ar_ret rfl rfl ?_
      show aRun _ (aCall Mt _) _ 34 (_, [_], _, _, _)
      refine ar_ret rfl rfl ?_
      refine ⟨_, 0, 0, _, rfl, Nat.zero_le _, Nat.zero_le _, (hs_ne (by decide) (hs_ne (by decide) (hs_ne (by decide) (hs_ne (by decide) (hs_ne (by decide) (hs_ne (by decide) rfl)))))), ?_⟩
      refine rgen ((((((rFr_F.sets (by decide)).sets (by decide)).sets (by decide)).sets (by decide)).sets (by decide)).sets (by decide)) (fun g hr => ?_)
      refine ac_ink [some (.inr (.inr (some 69))), some (.inl 3), some (.inl _), none] mt_212 (Nat.le_of_ble_eq_true rfl) rfl ?_
      refine ar_ldI rfl rfl ?_
      refine ar_push rfl ?_
      refine ar_push rfl ?_
      refine ar_callv rfl rfl (Nat.le_of_ble_eq_true rfl) (Nat.le_of_ble_eq_true rfl) rfl (sp_in _ _ _ _ _) ?_
      refine ar_if1t rfl (bi_n0t (by decide)) ?_
      refine ar_ldA rfl rfl ?_
      refine ar_get rfl (hr.at 69 (by decide) (by decide) rfl) rfl ?_
      refine ar_ldI rfl rfl ?_
      refine ar_bink (z := 3) rfl (by decide) ?_
      refine ar_push rfl ?_
      refine ar_if2t rfl (by decide) ?_
      refine ar_push rfl ?_
      refine ar_svIk [some (.inr (.inr (some 69))), some (.inl 3), some (.inl _), some (.inl 0)] rfl rfl ?_
      refine ar_ldI rfl rfl ?_
      refine ar_ldI rfl rfl ?_
      refine ar_if2f rfl (by decide) ?_
      refine ar_ldA rfl rfl ?_
      refine ar_get rfl (hr.at 69 (by decide) (by decide) rfl) rfl ?_
      refine ar_ldA rfl rfl ?_
      refine ar_get rfl (hr.at 69 (by decide) (by decide) rfl) rfl ?_
      refine ar_ldI rfl rfl ?_
      refine ar_push rfl ?_
      refine ar_ldI rfl rfl ?_
      refine ar_bink (z := 0) rfl (by decide) ?_
      refine ar_bin rfl ?_
      refine ar_un rfl ?_
      refine ar_ast rfl (hr.at 82 (by decide) (by decide) rfl) (by decide) (Nat.le_of_ble_eq_true rfl) ?_
      refine ar_ldA rfl rfl ?_
      refine ar_dup rfl rfl ?_
      refine ar_get rfl (hs_ne (by decide) (hr.at 69 (by decide) (by decide) rfl)) rfl ?_
      refine ar_push rfl ?_
      refine ar_bink (z := 1) rfl (by decide) ?_
      refine ar_put rfl (hs_ne (by decide) (hr.at 69 (by decide) (by decide) rfl)) (Nat.le_of_ble_eq_true rfl) rfl ?_
      refine ar_incl (z := 1) [some (.inr (.inr (some 69))), some (.inl 3), some (.inl _), some (.inl 1)] rfl rfl (by decide) rfl ?_
      refine ar_go rfl ?_
      refine ar_ldI rfl rfl ?_
      refine ar_ldI rfl rfl ?_
      refine ar_if2f rfl (by decide) ?_
      refine ar_ldA rfl rfl ?_
      refine ar_get rfl (hs_eq (hs_ne (by decide) (hr.at 69 (by decide) (by decide) rfl))) rfl ?_
      refine ar_ldA rfl rfl ?_
      refine ar_get rfl (hs_eq (hs_ne (by decide) (hr.at 69 (by decide) (by decide) rfl))) rfl ?_
      refine ar_ldI rfl rfl ?_
      refine ar_push rfl ?_
      refine ar_ldI rfl rfl ?_
      refine ar_bink (z := 8) rfl (by decide) ?_
      refine ar_bin rfl ?_
      refine ar_un rfl ?_
      refine ar_ast rfl (hs_ne (by decide) (hs_eq (hr.at 82 (by decide) (by decide) rfl))) (by decide) (Nat.le_of_ble_eq_true rfl) ?_
      refine ar_ldA rfl rfl ?_
      refine ar_dup rfl rfl ?_
      refine ar_get rfl (hs_ne (by decide) (hs_eq (hs_ne (by decide) (hr.at 69 (by decide) (by decide) rfl)))) rfl ?_
      refine ar_push rfl ?_
      refine ar_bink (z := 2) rfl (by decide) ?_
      refine ar_put rfl (hs_ne (by decide) (hs_eq (hs_ne (by decide) (hr.at 69 (by decide) (by decide) rfl)))) (Nat.le_of_ble_eq_true rfl) rfl ?_
      refine ar_incl (z := 2) [some (.inr (.inr (some 69))), some (.inl 3), some (.inl _), some (.inl 2)] rfl rfl (by decide) rfl ?_
      refine ar_go rfl ?_
      refine ar_ldI rfl rfl ?_
      refine ar_ldI rfl rfl ?_
      refine ar_if2f rfl (by decide) ?_
      refine ar_ldA rfl rfl ?_
      refine ar_get rfl (hs_eq (hs_ne (by decide) (hs_eq (hs_ne (by decide) (hr.at 69 (by decide) (by decide) rfl))))) rfl ?_
      refine ar_ldA rfl rfl ?_
      refine ar_get rfl (hs_eq (hs_ne (by decide) (hs_eq (hs_ne (by decide) (hr.at 69 (by decide) (by decide) rfl))))) rfl ?_
      refine ar_ldI rfl rfl ?_
      refine ar_push rfl ?_
      refine ar_ldI rfl rfl ?_
      refine ar_bink (z := 16) rfl (by decide) ?_
      refine ar_bin rfl ?_
      refine ar_un rfl ?_
      refine ar_ast rfl (hs_ne (by decide) (hs_eq (hs_ne (by decide) (hs_eq (hr.at 82 (by decide) (by decide) rfl))))) (by decide) (Nat.le_of_ble_eq_true rfl) ?_
      refine ar_ldA rfl rfl ?_
      refine ar_dup rfl rfl ?_
      refine ar_get rfl (hs_ne (by decide) (hs_eq (hs_ne (by decide) (hs_eq (hs_ne (by decide) (hr.at 69 (by decide) (by decide) rfl)))))) rfl ?_
      refine ar_push rfl ?_
      refine ar_bink (z := 3) rfl (by decide) ?_
      refine ar_put rfl (hs_ne (by decide) (hs_eq (hs_ne (by decide) (hs_eq (hs_ne (by decide) (hr.at 69 (by decide) (by decide) rfl)))))) (Nat.le_of_ble_eq_true rfl) rfl ?_
      refine ar_incl (z := 3) [some (.inr (.inr (some 69))), some (.inl 3), some (.inl _), some (.inl 3)] rfl rfl (by decide) rfl ?_
      refine ar_go rfl ?_
      refine ar_ldI rfl rfl ?_
      refine ar_ldI rfl rfl ?_
      refine ar_if2t rfl (by decide) ?_
      refine ar_ldA rfl rfl ?_
      refine ar_get rfl (hs_eq (hs_ne (by decide) (hs_eq (hs_ne (by decide) (hs_eq (hs_ne (by decide) (hr.at 69 (by decide) (by decide) rfl))))))) rfl ?_
      refine ar_ret rfl rfl ?_
      exact ⟨rfl, hJ _ _ _⟩
    · cases en_of nc1 (show ((4) : Int32).toInt = 4 by decide)
      refine ar_ldA rfl rfl ?_
      refine ar_get rfl rfl rfl ?_
      refine ar_ldI rfl rfl ?_
      refine ar_inl (mc := 0) (ms := 0) rfl (rcv_of rfl) (Nat.le_of_ble_eq_true rfl) (Nat.le_of_ble_eq_true rfl) (by omega) (by omega) ?_
      refine ac_ink [some (.inr (.inr (some 5))), some (.inl 4)] mt_92 (Nat.le_of_ble_eq_true rfl) rfl ?_
      refine ar_ldA rfl rfl ?_
      refine ar_get rfl rfl rfl ?_
      refine ar_ldI rfl rfl ?_
      refine ar_bink (z := 4) rfl (by decide) ?_
      refine ar_push rfl ?_
      refine ar_if2f rfl (by decide) ?_
      refine ar_push rfl ?_
      refine ar_go rfl ?_
      refine ar_ret rfl rfl ?_
      show aRun _ (aCall Mt _) _ 19 (_, [_], _, _, _)
      refine ar_if1t rfl (by decide) ?_
      refine ar_ldA rfl rfl ?_
      refine ar_get rfl rfl rfl ?_
      refine ar_ldI rfl rfl ?_
      refine ar_ldI rfl rfl ?_
      refine ar_inl (mc := 0) (ms := 0) rfl (rcv_of rfl) (Nat.le_of_ble_eq_true rfl) (Nat.le_of_ble_eq_true rfl) (by omega) (by omega) ?_
      refine ac_ink [some (.inr (.inr (some 5))), some (.inl 4), some (.inl _), none] mt_93 (Nat.le_of_ble_eq_true rfl) rfl ?_
      refine ar_push rfl ?_
      refine ar_svIk [some (.inr (.inr (some 5))), some (.inl 4), some (.inl _), some (.inl 0)] rfl rfl ?_
      refine ar_ldI rfl rfl ?_
      refine ar_ldI rfl rfl ?_
      refine ar_if2f rfl (by decide) ?_
      refine ar_ldA rfl rfl ?_
      refine ar_get rfl rfl rfl ?_
      refine ar_push rfl ?_
      refine ar_if2f rfl (by decide) ?_
      refine ar_ldA rfl rfl ?_
      refine ar_get rfl rfl rfl ?_
      refine ar_ldA rfl rfl ?_
      refine ar_get rfl rfl rfl ?_
      refine ar_ldI rfl rfl ?_
      refine ar_push rfl ?_
      refine ar_ldI rfl rfl ?_
      refine ar_bink (z := 0) rfl (by decide) ?_
      refine ar_bin rfl ?_
      refine ar_push rfl ?_
      refine ar_bin rfl ?_
      refine ar_ast rfl rfl (by decide) (Nat.le_of_ble_eq_true rfl) ?_
      refine ar_ldA rfl rfl ?_
      refine ar_dup rfl rfl ?_
      refine ar_get rfl (hs_ne (by decide) rfl) rfl ?_
      refine ar_push rfl ?_
      refine ar_bink (z := 1) rfl (by decide) ?_
      refine ar_put rfl (hs_ne (by decide) rfl) (Nat.le_of_ble_eq_true rfl) rfl ?_
      refine ar_incl (z := 1) [some (.inr (.inr (some 5))), some (.inl 4), some (.inl _), some (.inl 1)] rfl rfl (by decide) rfl ?_
      refine ar_go rfl ?_
      refine ar_ldI rfl rfl ?_
      refine ar_ldI rfl rfl ?_
      refine ar_if2f rfl (by decide) ?_
      refine ar_ldA rfl rfl ?_
      refine ar_get rfl (hs_eq (hs_ne (by decide) rfl)) rfl ?_
      refine ar_push rfl ?_
      refine ar_if2f rfl (by decide) ?_
      refine ar_ldA rfl rfl ?_
      refine ar_get rfl (hs_eq (hs_ne (by decide) rfl)) rfl ?_
      refine ar_ldA rfl rfl ?_
      refine ar_get rfl (hs_eq (hs_ne (by decide) rfl)) rfl ?_
      refine ar_ldI rfl rfl ?_
      refine ar_push rfl ?_
      refine ar_ldI rfl rfl ?_
      refine ar_bink (z := 8) rfl (by decide) ?_
      refine ar_bin rfl ?_
      refine ar_push rfl ?_
      refine ar_bin rfl ?_
      refine ar_ast rfl (hs_ne (by decide) (hs_eq rfl)) (by decide) (Nat.le_of_ble_eq_true rfl) ?_
      refine ar_ldA rfl rfl ?_
      refine ar_dup rfl rfl ?_
      refine ar_get rfl (hs_ne (by decide) (hs_eq (hs_ne (by decide) rfl))) rfl ?_
      refine ar_push rfl ?_
      refine ar_bink (z := 2) rfl (by decide) ?_
      refine ar_put rfl (hs_ne (by decide) (hs_eq (hs_ne (by decide) rfl))) (Nat.le_of_ble_eq_true rfl) rfl ?_
      refine ar_incl (z := 2) [some (.inr (.inr (some 5))), some (.inl 4), some (.inl _), some (.inl 2)] rfl rfl (by decide) rfl ?_
      refine ar_go rfl ?_
      refine ar_ldI rfl rfl ?_
      refine ar_ldI rfl rfl ?_
      refine ar_if2f rfl (by decide) ?_
      refine ar_ldA rfl rfl ?_
      refine ar_get rfl (hs_eq (hs_ne (by decide) (hs_eq (hs_ne (by decide) rfl)))) rfl ?_
      refine ar_push rfl ?_
      refine ar_if2f rfl (by decide) ?_
      refine ar_ldA rfl rfl ?_
      refine ar_get rfl (hs_eq (hs_ne (by decide) (hs_eq (hs_ne (by decide) rfl)))) rfl ?_
      refine ar_ldA rfl rfl ?_
      refine ar_get rfl (hs_eq (hs_ne (by decide) (hs_eq (hs_ne (by decide) rfl)))) rfl ?_
      refine ar_ldI rfl rfl ?_
      refine ar_push rfl ?_
      refine ar_ldI rfl rfl ?_
      refine ar_bink (z := 16) rfl (by decide) ?_
      refine ar_bin rfl ?_
      refine ar_push rfl ?_
      refine ar_bin rfl ?_
      refine ar_ast rfl (hs_ne (by decide) (hs_eq (hs_ne (by decide) (hs_eq rfl)))) (by decide) (Nat.le_of_ble_eq_true rfl) ?_
      refine ar_ldA rfl rfl ?_
      refine ar_dup rfl rfl ?_
      refine ar_get rfl (hs_ne (by decide) (hs_eq (hs_ne (by decide) (hs_eq (hs_ne (by decide) rfl))))) rfl ?_
      refine ar_push rfl ?_
      refine ar_bink (z := 3) rfl (by decide) ?_
      refine ar_put rfl (hs_ne (by decide) (hs_eq (hs_ne (by decide) (hs_eq (hs_ne (by decide) rfl))))) (Nat.le_of_ble_eq_true rfl) rfl ?_
      refine ar_incl (z := 3) [some (.inr (.inr (some 5))), some (.inl 4), some (.inl _), some (.inl 3)] rfl rfl (by decide) rfl ?_
      refine ar_go rfl ?_
      refine ar_ldI rfl rfl ?_
      refine ar_ldI rfl rfl ?_
      refine ar_if2f rfl (by decide) ?_
      refine ar_ldA rfl rfl ?_
      refine ar_get rfl (hs_eq (hs_ne (by decide) (hs_eq (hs_ne (by decide) (hs_eq (hs_ne (by decide) rfl)))))) rfl ?_
      refine ar_push rfl ?_
      refine ar_if2f rfl (by decide) ?_
      refine ar_ldA rfl rfl ?_
      refine ar_get rfl (hs_eq (hs_ne (by decide) (hs_eq (hs_ne (by decide) (hs_eq (hs_ne (by decide) rfl)))))) rfl ?_
      refine ar_ldA rfl rfl ?_
      refine ar_get rfl (hs_eq (hs_ne (by decide) (hs_eq (hs_ne (by decide) (hs_eq (hs_ne (by decide) rfl)))))) rfl ?_
      refine ar_ldI rfl rfl ?_
      refine ar_push rfl ?_
      refine ar_ldI rfl rfl ?_
      refine ar_bink (z := 24) rfl (by decide) ?_
      refine ar_bin rfl ?_
      refine ar_push rfl ?_
      refine ar_bin rfl ?_
      refine ar_ast rfl (hs_ne (by decide) (hs_eq (hs_ne (by decide) (hs_eq (hs_ne (by decide) (hs_eq rfl)))))) (by decide) (Nat.le_of_ble_eq_true rfl) ?_
      refine ar_ldA rfl rfl ?_
      refine ar_dup rfl rfl ?_
      refine ar_get rfl (hs_ne (by decide) (hs_eq (hs_ne (by decide) (hs_eq (hs_ne (by decide) (hs_eq (hs_ne (by decide) rfl))))))) rfl ?_
      refine ar_push rfl ?_
      refine ar_bink (z := 4) rfl (by decide) ?_
      refine ar_put rfl (hs_ne (by decide) (hs_eq (hs_ne (by decide) (hs_eq (hs_ne (by decide) (hs_eq (hs_ne (by decide) rfl))))))) (Nat.le_of_ble_eq_true rfl) rfl ?_
      refine ar_incl (z := 4) [some (.inr (.inr (some 5))), some (.inl 4), some (.inl _), some (.inl 4)] rfl rfl (by decide) rfl ?_
      refine ar_go rfl ?_
      refine ar_ldI rfl rfl ?_
      refine ar_ldI rfl rfl ?_
      refine ar_if2t rfl (by decide) ?_
      refine ar_ldA rfl rfl ?_
      refine ar_get rfl (hs_eq (hs_ne (by decide) (hs_eq (hs_ne (by decide) (hs_eq (hs_ne (by decide) (hs_eq (hs_ne (by decide) rfl)))))))) rfl ?_
      refine ar_ret rfl rfl ?_
      show aRun _ (aCall Mt _) _ 34 (_, [_], _, _, _)
      refine ar_ret rfl rfl ?_
      refine ⟨_, 0, 0, _, rfl, Nat.zero_le _, Nat.zero_le _, (hs_ne (by decide) (hs_ne (by decide) (hs_ne (by decide) (hs_ne (by decide) (hs_ne (by decide) (hs_ne (by decide) (hs_ne (by decide) (hs_ne (by decide) rfl)))))))), ?_⟩
      refine rgen ((((((((rFr_F.sets (by decide)).sets (by decide)).sets (by decide)).sets (by decide)).sets (by decide)).sets (by decide)).sets (by decide)).sets (by decide)) (fun g hr => ?_)
      refine ac_ink [some (.inr (.inr (some 69))), some (.inl 4), some (.inl _), none] mt_212 (Nat.le_of_ble_eq_true rfl) rfl ?_
      refine ar_ldI rfl rfl ?_
      refine ar_push rfl ?_
      refine ar_push rfl ?_
      refine ar_callv rfl rfl (Nat.le_of_ble_eq_true rfl) (Nat.le_of_ble_eq_true rfl) rfl (sp_in _ _ _ _ _) ?_
      refine ar_if1t rfl (bi_n0t (by decide)) ?_
      refine ar_ldA rfl rfl ?_
      refine ar_get rfl (hr.at 69 (by decide) (by decide) rfl) rfl ?_
      refine ar_ldI rfl rfl ?_
      refine ar_bink (z := 4) rfl (by decide) ?_
      refine ar_push rfl ?_
      refine ar_if2t rfl (by decide) ?_
      refine ar_push rfl ?_
      refine ar_svIk [some (.inr (.inr (some 69))), some (.inl 4), some (.inl _), some (.inl 0)] rfl rfl ?_
      refine ar_ldI rfl rfl ?_
      refine ar_ldI rfl rfl ?_
      refine ar_if2f rfl (by decide) ?_
      refine ar_ldA rfl rfl ?_
      refine ar_get rfl (hr.at 69 (by decide) (by decide) rfl) rfl ?_
      refine ar_ldA rfl rfl ?_
      refine ar_get rfl (hr.at 69 (by decide) (by decide) rfl) rfl ?_
      refine ar_ldI rfl rfl ?_
      refine ar_push rfl ?_
      refine ar_ldI rfl rfl ?_
      refine ar_bink (z := 0) rfl (by decide) ?_
      refine ar_bin rfl ?_
      refine ar_un rfl ?_
      refine ar_ast rfl (hr.at 82 (by decide) (by decide) rfl) (by decide) (Nat.le_of_ble_eq_true rfl) ?_
      refine ar_ldA rfl rfl ?_
      refine ar_dup rfl rfl ?_
      refine ar_get rfl (hs_ne (by decide) (hr.at 69 (by decide) (by decide) rfl)) rfl ?_
      refine ar_push rfl ?_
      refine ar_bink (z := 1) rfl (by decide) ?_
      refine ar_put rfl (hs_ne (by decide) (hr.at 69 (by decide) (by decide) rfl)) (Nat.le_of_ble_eq_true rfl) rfl ?_
      refine ar_incl (z := 1) [some (.inr (.inr (some 69))), some (.inl 4), some (.inl _), some (.inl 1)] rfl rfl (by decide) rfl ?_
      refine ar_go rfl ?_
      refine ar_ldI rfl rfl ?_
      refine ar_ldI rfl rfl ?_
      refine ar_if2f rfl (by decide) ?_
      refine ar_ldA rfl rfl ?_
      refine ar_get rfl (hs_eq (hs_ne (by decide) (hr.at 69 (by decide) (by decide) rfl))) rfl ?_
      refine ar_ldA rfl rfl ?_
      refine ar_get rfl (hs_eq (hs_ne (by decide) (hr.at 69 (by decide) (by decide) rfl))) rfl ?_
      refine ar_ldI rfl rfl ?_
      refine ar_push rfl ?_
      refine ar_ldI rfl rfl ?_
      refine ar_bink (z := 8) rfl (by decide) ?_
      refine ar_bin rfl ?_
      refine ar_un rfl ?_
      refine ar_ast rfl (hs_ne (by decide) (hs_eq (hr.at 82 (by decide) (by decide) rfl))) (by decide) (Nat.le_of_ble_eq_true rfl) ?_
      refine ar_ldA rfl rfl ?_
      refine ar_dup rfl rfl ?_
      refine ar_get rfl (hs_ne (by decide) (hs_eq (hs_ne (by decide) (hr.at 69 (by decide) (by decide) rfl)))) rfl ?_
      refine ar_push rfl ?_
      refine ar_bink (z := 2) rfl (by decide) ?_
      refine ar_put rfl (hs_ne (by decide) (hs_eq (hs_ne (by decide) (hr.at 69 (by decide) (by decide) rfl)))) (Nat.le_of_ble_eq_true rfl) rfl ?_
      refine ar_incl (z := 2) [some (.inr (.inr (some 69))), some (.inl 4), some (.inl _), some (.inl 2)] rfl rfl (by decide) rfl ?_
      refine ar_go rfl ?_
      refine ar_ldI rfl rfl ?_
      refine ar_ldI rfl rfl ?_
      refine ar_if2f rfl (by decide) ?_
      refine ar_ldA rfl rfl ?_
      refine ar_get rfl (hs_eq (hs_ne (by decide) (hs_eq (hs_ne (by decide) (hr.at 69 (by decide) (by decide) rfl))))) rfl ?_
      refine ar_ldA rfl rfl ?_
      refine ar_get rfl (hs_eq (hs_ne (by decide) (hs_eq (hs_ne (by decide) (hr.at 69 (by decide) (by decide) rfl))))) rfl ?_
      refine ar_ldI rfl rfl ?_
      refine ar_push rfl ?_
      refine ar_ldI rfl rfl ?_
      refine ar_bink (z := 16) rfl (by decide) ?_
      refine ar_bin rfl ?_
      refine ar_un rfl ?_
      refine ar_ast rfl (hs_ne (by decide) (hs_eq (hs_ne (by decide) (hs_eq (hr.at 82 (by decide) (by decide) rfl))))) (by decide) (Nat.le_of_ble_eq_true rfl) ?_
      refine ar_ldA rfl rfl ?_
      refine ar_dup rfl rfl ?_
      refine ar_get rfl (hs_ne (by decide) (hs_eq (hs_ne (by decide) (hs_eq (hs_ne (by decide) (hr.at 69 (by decide) (by decide) rfl)))))) rfl ?_
      refine ar_push rfl ?_
      refine ar_bink (z := 3) rfl (by decide) ?_
      refine ar_put rfl (hs_ne (by decide) (hs_eq (hs_ne (by decide) (hs_eq (hs_ne (by decide) (hr.at 69 (by decide) (by decide) rfl)))))) (Nat.le_of_ble_eq_true rfl) rfl ?_
      refine ar_incl (z := 3) [some (.inr (.inr (some 69))), some (.inl 4), some (.inl _), some (.inl 3)] rfl rfl (by decide) rfl ?_
      refine ar_go rfl ?_
      refine ar_ldI rfl rfl ?_
      refine ar_ldI rfl rfl ?_
      refine ar_if2f rfl (by decide) ?_
      refine ar_ldA rfl rfl ?_
      refine ar_get rfl (hs_eq (hs_ne (by decide) (hs_eq (hs_ne (by decide) (hs_eq (hs_ne (by decide) (hr.at 69 (by decide) (by decide) rfl))))))) rfl ?_
      refine ar_ldA rfl rfl ?_
      refine ar_get rfl (hs_eq (hs_ne (by decide) (hs_eq (hs_ne (by decide) (hs_eq (hs_ne (by decide) (hr.at 69 (by decide) (by decide) rfl))))))) rfl ?_
      refine ar_ldI rfl rfl ?_
      refine ar_push rfl ?_
      refine ar_ldI rfl rfl ?_
      refine ar_bink (z := 24) rfl (by decide) ?_
      refine ar_bin rfl ?_
      refine ar_un rfl ?_
      refine ar_ast rfl (hs_ne (by decide) (hs_eq (hs_ne (by decide) (hs_eq (hs_ne (by decide) (hs_eq (hr.at 82 (by decide) (by decide) rfl))))))) (by decide) (Nat.le_of_ble_eq_true rfl) ?_
      refine ar_ldA rfl rfl ?_
      refine ar_dup rfl rfl ?_
      refine ar_get rfl (hs_ne (by decide) (hs_eq (hs_ne (by decide) (hs_eq (hs_ne (by decide) (hs_eq (hs_ne (by decide) (hr.at 69 (by decide) (by decide) rfl)))))))) rfl ?_
      refine ar_push rfl ?_
      refine ar_bink (z := 4) rfl (by decide) ?_
      refine ar_put rfl (hs_ne (by decide) (hs_eq (hs_ne (by decide) (hs_eq (hs_ne (by decide) (hs_eq (hs_ne (by decide) (hr.at 69 (by decide) (by decide) rfl)))))))) (Nat.le_of_ble_eq_true rfl) rfl ?_
      refine ar_incl (z := 4) [some (.inr (.inr (some 69))), some (.inl 4), some (.inl _), some (.inl 4)] rfl rfl (by decide) rfl ?_
      refine ar_go rfl ?_
      refine ar_ldI rfl rfl ?_
      refine ar_ldI rfl rfl ?_
      refine ar_if2t rfl (by decide) ?_
      refine ar_ldA rfl rfl ?_
      refine ar_get rfl (hs_eq (hs_ne (by decide) (hs_eq (hs_ne (by decide) (hs_eq (hs_ne (by decide) (hs_eq (hs_ne (by decide) (hr.at 69 (by decide) (by decide) rfl))))))))) rfl ?_
      refine ar_ret rfl rfl ?_
      exact ⟨rfl, hJ _ _ _⟩
  · refine ar_push rfl ?_
    refine ar_ret rfl rfl ?_
    refine ⟨_, 0, 0, _, rfl, Nat.zero_le _, Nat.zero_le _, rfl, ?_⟩
    refine rgen rFr_F (fun g hr => ?_)
    refine ac_ink [some (.inr (.inr (some 69))), some (.inl _), some (.inl _), none] mt_212 (Nat.le_of_ble_eq_true rfl) rfl ?_
    refine ar_ldI rfl rfl ?_
    refine ar_push rfl ?_
    refine ar_push rfl ?_
    refine ar_callv rfl rfl (Nat.le_of_ble_eq_true rfl) (Nat.le_of_ble_eq_true rfl) rfl (sp_in _ _ _ _ _) ?_
    refine ar_if1f rfl (bi_n0f c1) ?_
    refine ar_push rfl ?_
    refine ar_ret rfl rfl ?_
    exact ⟨rfl, hJ _ _ _⟩

set_option maxRecDepth 20000 in
set_option maxHeartbeats 4000000 in
theorem p1_8 (x1 : Int32) (x2 : Int32) (x3 : Int32) (J : aH → Nat → Nat → Prop) (hJ : ∀ h a b, J h a b) (kc ks : Nat) (hkc : 1000 ≤ kc) (hks : 100000 ≤ ks) : aPairI 0 69 132 231 [.inl x1, .inl x2, .inl x3] J hF kc ks := by
  refine ⟨0, 0, _, by omega, by omega, rfl, ?_⟩
  refine ac_ink [some (.inr (.inr (some 0))), some (.inl _), some (.inl _), some (.inl _)] mt_132 (Nat.le_of_ble_eq_true rfl) rfl ?_
  refine ar_ldI rfl rfl ?_
  refine ar_push rfl ?_
  refine ar_push rfl ?_
  refine ar_callv rfl rfl (Nat.le_of_ble_eq_true rfl) (Nat.le_of_ble_eq_true rfl) rfl (sp_within _ _ _ _ _) ?_
  refine ar_eqB rfl (fun c1 => ?_) (fun c1 => ?_)
  · refine ar_push rfl ?_
    refine ar_ret rfl rfl ?_
    refine ⟨_, 0, 0, _, rfl, Nat.zero_le _, Nat.zero_le _, rfl, ?_⟩
    refine rgen rFr_F (fun g hr => ?_)
    refine ac_ink [some (.inr (.inr (some 69))), some (.inl _), some (.inl _), some (.inl _)] mt_231 (Nat.le_of_ble_eq_true rfl) rfl ?_
    refine ar_ldI rfl rfl ?_
    refine ar_push rfl ?_
    refine ar_push rfl ?_
    refine ar_callv rfl rfl (Nat.le_of_ble_eq_true rfl) (Nat.le_of_ble_eq_true rfl) rfl (sp_in _ _ _ _ _) ?_
    refine ar_if1t rfl (bi_e0t c1) ?_
    refine ar_push rfl ?_
    refine ar_ret rfl rfl ?_
    exact ⟨rfl, hJ _ _ _⟩
  · refine ar_ldI rfl rfl ?_
    refine ar_inl (mc := 0) (ms := 0) rfl rfl (Nat.le_of_ble_eq_true rfl) (Nat.le_of_ble_eq_true rfl) (by omega) (by omega) ?_
    refine ac_ink [some (.inl _)] mt_174 (Nat.le_of_ble_eq_true rfl) rfl ?_
    refine ar_ldI rfl rfl ?_
    refine ar_push rfl ?_
    refine ar_push rfl ?_
    refine ar_callv rfl rfl (Nat.le_of_ble_eq_true rfl) (Nat.le_of_ble_eq_true rfl) rfl (sp_within _ _ _ _ _) ?_
    refine ar_ret rfl (bi_ret _) ?_
    show aRun _ (aCall Mt _) _ 14 (_, [_], _, _, _)
    refine ar_eqB rfl (fun c2 => ?_) (fun c2 => ?_)
    · refine ar_push rfl ?_
      refine ar_ret rfl rfl ?_
      refine ⟨_, 0, 0, _, rfl, Nat.zero_le _, Nat.zero_le _, rfl, ?_⟩
      refine rgen rFr_F (fun g hr => ?_)
      refine ac_ink [some (.inr (.inr (some 69))), some (.inl _), some (.inl _), some (.inl _)] mt_231 (Nat.le_of_ble_eq_true rfl) rfl ?_
      refine ar_ldI rfl rfl ?_
      refine ar_push rfl ?_
      refine ar_push rfl ?_
      refine ar_callv rfl rfl (Nat.le_of_ble_eq_true rfl) (Nat.le_of_ble_eq_true rfl) rfl (sp_in _ _ _ _ _) ?_
      refine ar_if1f rfl (bi_e0f c1) ?_
      refine ar_ldI rfl rfl ?_
      refine ar_inl (mc := 0) (ms := 0) rfl rfl (Nat.le_of_ble_eq_true rfl) (Nat.le_of_ble_eq_true rfl) (by omega) (by omega) ?_
      refine ac_ink [some (.inl _)] mt_189 (Nat.le_of_ble_eq_true rfl) rfl ?_
      refine ar_ldI rfl rfl ?_
      refine ar_push rfl ?_
      refine ar_push rfl ?_
      refine ar_callv rfl rfl (Nat.le_of_ble_eq_true rfl) (Nat.le_of_ble_eq_true rfl) rfl (sp_in _ _ _ _ _) ?_
      refine ar_ret rfl (bi_ret _) ?_
      show aRun _ (aCall Mt _) _ 14 (_, [_], _, _, _)
      refine ar_if1t rfl (bi_e0t c2) ?_
      refine ar_push rfl ?_
      refine ar_ret rfl rfl ?_
      exact ⟨rfl, hJ _ _ _⟩
    · refine ar_ldI rfl rfl ?_
      refine ar_push rfl ?_
      refine ar_push rfl ?_
      refine ar_callv rfl rfl (Nat.le_of_ble_eq_true rfl) (Nat.le_of_ble_eq_true rfl) rfl (sp_within _ _ _ _ _) ?_
      refine ar_neB rfl (fun c3 => ?_) (fun c3 => ?_)
      · refine ar_ldA rfl rfl ?_
        refine ar_get rfl rfl rfl ?_
        refine ar_inl (mc := 0) (ms := 0) rfl (rcv_of rfl) (Nat.le_of_ble_eq_true rfl) (Nat.le_of_ble_eq_true rfl) (by omega) (by omega) ?_
        refine ac_ink [some (.inr (.inr (some 41)))] mt_74 (Nat.le_of_ble_eq_true rfl) rfl ?_
        refine ar_ldA rfl rfl ?_
        refine ar_get rfl rfl rfl ?_
        refine ar_push rfl ?_
        refine ar_inl (mc := 0) (ms := 0) rfl rfl (Nat.le_of_ble_eq_true rfl) (Nat.le_of_ble_eq_true rfl) (by omega) (by omega) ?_
        refine ac_ink [some (.inr (.inr (some 45))), some (.inr (.inl _)), none, none, none] mt_306 (Nat.le_of_ble_eq_true rfl) rfl ?_
        refine ar_push rfl ?_
        refine ar_svIk [some (.inr (.inr (some 45))), some (.inr (.inl _)), none, some (.inl 0), none] rfl rfl ?_
        refine ar_ldA rfl rfl ?_
        refine ar_len rfl rfl ?_
        refine ar_svIk [some (.inr (.inr (some 45))), some (.inr (.inl _)), none, some (.inl 0), some (.inl 36)] rfl rfl ?_
        refine ar_ldI rfl rfl ?_
        refine ar_ldI rfl rfl ?_
        refine ar_if2f rfl (by decide) ?_
        refine ar_ldA rfl rfl ?_
        refine ar_ldI rfl rfl ?_
        refine ar_ldJ rfl rfl ?_
        refine ar_astJ rfl rfl (by decide) (Nat.le_of_ble_eq_true rfl) ?_
        refine ar_incl (z := 1) [some (.inr (.inr (some 45))), some (.inr (.inl _)), none, some (.inl 1), some (.inl 36)] rfl rfl (by decide) rfl ?_
        refine ar_go rfl ?_
        refine ar_ldI rfl rfl ?_
        refine ar_ldI rfl rfl ?_
        refine ar_if2f rfl (by decide) ?_
        refine ar_ldA rfl rfl ?_
        refine ar_ldI rfl rfl ?_
        refine ar_ldJ rfl rfl ?_
        refine ar_astJ rfl (hs_eq rfl) (by decide) (Nat.le_of_ble_eq_true rfl) ?_
        refine ar_incl (z := 2) [some (.inr (.inr (some 45))), some (.inr (.inl _)), none, some (.inl 2), some (.inl 36)] rfl rfl (by decide) rfl ?_
        refine ar_go rfl ?_
        refine ar_ldI rfl rfl ?_
        refine ar_ldI rfl rfl ?_
        refine ar_if2f rfl (by decide) ?_
        refine ar_ldA rfl rfl ?_
        refine ar_ldI rfl rfl ?_
        refine ar_ldJ rfl rfl ?_
        refine ar_astJ rfl (hs_eq (hs_eq rfl)) (by decide) (Nat.le_of_ble_eq_true rfl) ?_
        refine ar_incl (z := 3) [some (.inr (.inr (some 45))), some (.inr (.inl _)), none, some (.inl 3), some (.inl 36)] rfl rfl (by decide) rfl ?_
        refine ar_go rfl ?_
        refine ar_ldI rfl rfl ?_
        refine ar_ldI rfl rfl ?_
        refine ar_if2f rfl (by decide) ?_
        refine ar_ldA rfl rfl ?_
        refine ar_ldI rfl rfl ?_
        refine ar_ldJ rfl rfl ?_
        refine ar_astJ rfl (hs_eq (hs_eq (hs_eq rfl))) (by decide) (Nat.le_of_ble_eq_true rfl) ?_
        refine ar_incl (z := 4) [some (.inr (.inr (some 45))), some (.inr (.inl _)), none, some (.inl 4), some (.inl 36)] rfl rfl (by decide) rfl ?_
        refine ar_go rfl ?_
        refine ar_ldI rfl rfl ?_
        refine ar_ldI rfl rfl ?_
        refine ar_if2f rfl (by decide) ?_
        refine ar_ldA rfl rfl ?_
        refine ar_ldI rfl rfl ?_
        refine ar_ldJ rfl rfl ?_
        refine ar_astJ rfl (hs_eq (hs_eq (hs_eq (hs_eq rfl)))) (by decide) (Nat.le_of_ble_eq_true rfl) ?_
        refine ar_incl (z := 5) [some (.inr (.inr (some 45))), some (.inr (.inl _)), none, some (.inl 5), some (.inl 36)] rfl rfl (by decide) rfl ?_
        refine ar_go rfl ?_
        refine ar_ldI rfl rfl ?_
        refine ar_ldI rfl rfl ?_
        refine ar_if2f rfl (by decide) ?_
        refine ar_ldA rfl rfl ?_
        refine ar_ldI rfl rfl ?_
        refine ar_ldJ rfl rfl ?_
        refine ar_astJ rfl (hs_eq (hs_eq (hs_eq (hs_eq (hs_eq rfl))))) (by decide) (Nat.le_of_ble_eq_true rfl) ?_
        refine ar_incl (z := 6) [some (.inr (.inr (some 45))), some (.inr (.inl _)), none, some (.inl 6), some (.inl 36)] rfl rfl (by decide) rfl ?_
        refine ar_go rfl ?_
        refine ar_ldI rfl rfl ?_
        refine ar_ldI rfl rfl ?_
        refine ar_if2f rfl (by decide) ?_
        refine ar_ldA rfl rfl ?_
        refine ar_ldI rfl rfl ?_
        refine ar_ldJ rfl rfl ?_
        refine ar_astJ rfl (hs_eq (hs_eq (hs_eq (hs_eq (hs_eq (hs_eq rfl)))))) (by decide) (Nat.le_of_ble_eq_true rfl) ?_
        refine ar_incl (z := 7) [some (.inr (.inr (some 45))), some (.inr (.inl _)), none, some (.inl 7), some (.inl 36)] rfl rfl (by decide) rfl ?_
        refine ar_go rfl ?_
        refine ar_ldI rfl rfl ?_
        refine ar_ldI rfl rfl ?_
        refine ar_if2f rfl (by decide) ?_
        refine ar_ldA rfl rfl ?_
        refine ar_ldI rfl rfl ?_
        refine ar_ldJ rfl rfl ?_
        refine ar_astJ rfl (hs_eq (hs_eq (hs_eq (hs_eq (hs_eq (hs_eq (hs_eq rfl))))))) (by decide) (Nat.le_of_ble_eq_true rfl) ?_
        refine ar_incl (z := 8) [some (.inr (.inr (some 45))), some (.inr (.inl _)), none, some (.inl 8), some (.inl 36)] rfl rfl (by decide) rfl ?_
        refine ar_go rfl ?_
        refine ar_ldI rfl rfl ?_
        refine ar_ldI rfl rfl ?_
        refine ar_if2f rfl (by decide) ?_
        refine ar_ldA rfl rfl ?_
        refine ar_ldI rfl rfl ?_
        refine ar_ldJ rfl rfl ?_
        refine ar_astJ rfl (hs_eq (hs_eq (hs_eq (hs_eq (hs_eq (hs_eq (hs_eq (hs_eq rfl)))))))) (by decide) (Nat.le_of_ble_eq_true rfl) ?_
        refine ar_incl (z := 9) [some (.inr (.inr (some 45))), some (.inr (.inl _)), none, some (.inl 9), some (.inl 36)] rfl rfl (by decide) rfl ?_
        refine ar_go rfl ?_
        refine ar_ldI rfl rfl ?_
        refine ar_ldI rfl rfl ?_
        refine ar_if2f rfl (by decide) ?_
        refine ar_ldA rfl rfl ?_
        refine ar_ldI rfl rfl ?_
        refine ar_ldJ rfl rfl ?_
        refine ar_astJ rfl (hs_eq (hs_eq (hs_eq (hs_eq (hs_eq (hs_eq (hs_eq (hs_eq (hs_eq rfl))))))))) (by decide) (Nat.le_of_ble_eq_true rfl) ?_
        refine ar_incl (z := 10) [some (.inr (.inr (some 45))), some (.inr (.inl _)), none, some (.inl 10), some (.inl 36)] rfl rfl (by decide) rfl ?_
        refine ar_go rfl ?_
        refine ar_ldI rfl rfl ?_
        refine ar_ldI rfl rfl ?_
        refine ar_if2f rfl (by decide) ?_
        refine ar_ldA rfl rfl ?_
        refine ar_ldI rfl rfl ?_
        refine ar_ldJ rfl rfl ?_
        refine ar_astJ rfl (hs_eq (hs_eq (hs_eq (hs_eq (hs_eq (hs_eq (hs_eq (hs_eq (hs_eq (hs_eq rfl)))))))))) (by decide) (Nat.le_of_ble_eq_true rfl) ?_
        refine ar_incl (z := 11) [some (.inr (.inr (some 45))), some (.inr (.inl _)), none, some (.inl 11), some (.inl 36)] rfl rfl (by decide) rfl ?_
        refine ar_go rfl ?_
        refine ar_ldI rfl rfl ?_
        refine ar_ldI rfl rfl ?_
        refine ar_if2f rfl (by decide) ?_
        refine ar_ldA rfl rfl ?_
        refine ar_ldI rfl rfl ?_
        refine ar_ldJ rfl rfl ?_
        refine ar_astJ rfl (hs_eq (hs_eq (hs_eq (hs_eq (hs_eq (hs_eq (hs_eq (hs_eq (hs_eq (hs_eq (hs_eq rfl))))))))))) (by decide) (Nat.le_of_ble_eq_true rfl) ?_
        refine ar_incl (z := 12) [some (.inr (.inr (some 45))), some (.inr (.inl _)), none, some (.inl 12), some (.inl 36)] rfl rfl (by decide) rfl ?_
        refine ar_go rfl ?_
        refine ar_ldI rfl rfl ?_
        refine ar_ldI rfl rfl ?_
        refine ar_if2f rfl (by decide) ?_
        refine ar_ldA rfl rfl ?_
        refine ar_ldI rfl rfl ?_
        refine ar_ldJ rfl rfl ?_
        refine ar_astJ rfl (hs_eq (hs_eq (hs_eq (hs_eq (hs_eq (hs_eq (hs_eq (hs_eq (hs_eq (hs_eq (hs_eq (hs_eq rfl)))))))))))) (by decide) (Nat.le_of_ble_eq_true rfl) ?_
        refine ar_incl (z := 13) [some (.inr (.inr (some 45))), some (.inr (.inl _)), none, some (.inl 13), some (.inl 36)] rfl rfl (by decide) rfl ?_
        refine ar_go rfl ?_
        refine ar_ldI rfl rfl ?_
        refine ar_ldI rfl rfl ?_
        refine ar_if2f rfl (by decide) ?_
        refine ar_ldA rfl rfl ?_
        refine ar_ldI rfl rfl ?_
        refine ar_ldJ rfl rfl ?_
        refine ar_astJ rfl (hs_eq (hs_eq (hs_eq (hs_eq (hs_eq (hs_eq (hs_eq (hs_eq (hs_eq (hs_eq (hs_eq (hs_eq (hs_eq rfl))))))))))))) (by decide) (Nat.le_of_ble_eq_true rfl) ?_
        refine ar_incl (z := 14) [some (.inr (.inr (some 45))), some (.inr (.inl _)), none, some (.inl 14), some (.inl 36)] rfl rfl (by decide) rfl ?_
        refine ar_go rfl ?_
        refine ar_ldI rfl rfl ?_
        refine ar_ldI rfl rfl ?_
        refine ar_if2f rfl (by decide) ?_
        refine ar_ldA rfl rfl ?_
        refine ar_ldI rfl rfl ?_
        refine ar_ldJ rfl rfl ?_
        refine ar_astJ rfl (hs_eq (hs_eq (hs_eq (hs_eq (hs_eq (hs_eq (hs_eq (hs_eq (hs_eq (hs_eq (hs_eq (hs_eq (hs_eq (hs_eq rfl)))))))))))))) (by decide) (Nat.le_of_ble_eq_true rfl) ?_
        refine ar_incl (z := 15) [some (.inr (.inr (some 45))), some (.inr (.inl _)), none, some (.inl 15), some (.inl 36)] rfl rfl (by decide) rfl ?_
        refine ar_go rfl ?_
        refine ar_ldI rfl rfl ?_
        refine ar_ldI rfl rfl ?_
        refine ar_if2f rfl (by decide) ?_
        refine ar_ldA rfl rfl ?_
        refine ar_ldI rfl rfl ?_
        refine ar_ldJ rfl rfl ?_
        refine ar_astJ rfl (hs_eq (hs_eq (hs_eq (hs_eq (hs_eq (hs_eq (hs_eq (hs_eq (hs_eq (hs_eq (hs_eq (hs_eq (hs_eq (hs_eq (hs_eq rfl))))))))))))))) (by decide) (Nat.le_of_ble_eq_true rfl) ?_
        refine ar_incl (z := 16) [some (.inr (.inr (some 45))), some (.inr (.inl _)), none, some (.inl 16), some (.inl 36)] rfl rfl (by decide) rfl ?_
        refine ar_go rfl ?_
        refine ar_ldI rfl rfl ?_
        refine ar_ldI rfl rfl ?_
        refine ar_if2f rfl (by decide) ?_
        refine ar_ldA rfl rfl ?_
        refine ar_ldI rfl rfl ?_
        refine ar_ldJ rfl rfl ?_
        refine ar_astJ rfl (hs_eq (hs_eq (hs_eq (hs_eq (hs_eq (hs_eq (hs_eq (hs_eq (hs_eq (hs_eq (hs_eq (hs_eq (hs_eq (hs_eq (hs_eq (hs_eq rfl)))))))))))))))) (by decide) (Nat.le_of_ble_eq_true rfl) ?_
        refine ar_incl (z := 17) [some (.inr (.inr (some 45))), some (.inr (.inl _)), none, some (.inl 17), some (.inl 36)] rfl rfl (by decide) rfl ?_
        refine ar_go rfl ?_
        refine ar_ldI rfl rfl ?_
        refine ar_ldI rfl rfl ?_
        refine ar_if2f rfl (by decide) ?_
        refine ar_ldA rfl rfl ?_
        refine ar_ldI rfl rfl ?_
        refine ar_ldJ rfl rfl ?_
        refine ar_astJ rfl (hs_eq (hs_eq (hs_eq (hs_eq (hs_eq (hs_eq (hs_eq (hs_eq (hs_eq (hs_eq (hs_eq (hs_eq (hs_eq (hs_eq (hs_eq (hs_eq (hs_eq rfl))))))))))))))))) (by decide) (Nat.le_of_ble_eq_true rfl) ?_
        refine ar_incl (z := 18) [some (.inr (.inr (some 45))), some (.inr (.inl _)), none, some (.inl 18), some (.inl 36)] rfl rfl (by decide) rfl ?_
        refine ar_go rfl ?_
        refine ar_ldI rfl rfl ?_
        refine ar_ldI rfl rfl ?_
        refine ar_if2f rfl (by decide) ?_
        refine ar_ldA rfl rfl ?_
        refine ar_ldI rfl rfl ?_
        refine ar_ldJ rfl rfl ?_
        refine ar_astJ rfl (hs_eq (hs_eq (hs_eq (hs_eq (hs_eq (hs_eq (hs_eq (hs_eq (hs_eq (hs_eq (hs_eq (hs_eq (hs_eq (hs_eq (hs_eq (hs_eq (hs_eq (hs_eq rfl)))))))))))))))))) (by decide) (Nat.le_of_ble_eq_true rfl) ?_
        refine ar_incl (z := 19) [some (.inr (.inr (some 45))), some (.inr (.inl _)), none, some (.inl 19), some (.inl 36)] rfl rfl (by decide) rfl ?_
        refine ar_go rfl ?_
        refine ar_ldI rfl rfl ?_
        refine ar_ldI rfl rfl ?_
        refine ar_if2f rfl (by decide) ?_
        refine ar_ldA rfl rfl ?_
        refine ar_ldI rfl rfl ?_
        refine ar_ldJ rfl rfl ?_
        refine ar_astJ rfl (hs_eq (hs_eq (hs_eq (hs_eq (hs_eq (hs_eq (hs_eq (hs_eq (hs_eq (hs_eq (hs_eq (hs_eq (hs_eq (hs_eq (hs_eq (hs_eq (hs_eq (hs_eq (hs_eq rfl))))))))))))))))))) (by decide) (Nat.le_of_ble_eq_true rfl) ?_
        refine ar_incl (z := 20) [some (.inr (.inr (some 45))), some (.inr (.inl _)), none, some (.inl 20), some (.inl 36)] rfl rfl (by decide) rfl ?_
        refine ar_go rfl ?_
        refine ar_ldI rfl rfl ?_
        refine ar_ldI rfl rfl ?_
        refine ar_if2f rfl (by decide) ?_
        refine ar_ldA rfl rfl ?_
        refine ar_ldI rfl rfl ?_
        refine ar_ldJ rfl rfl ?_
        refine ar_astJ rfl (hs_eq (hs_eq (hs_eq (hs_eq (hs_eq (hs_eq (hs_eq (hs_eq (hs_eq (hs_eq (hs_eq (hs_eq (hs_eq (hs_eq (hs_eq (hs_eq (hs_eq (hs_eq (hs_eq (hs_eq rfl)))))))))))))))))))) (by decide) (Nat.le_of_ble_eq_true rfl) ?_
        refine ar_incl (z := 21) [some (.inr (.inr (some 45))), some (.inr (.inl _)), none, some (.inl 21), some (.inl 36)] rfl rfl (by decide) rfl ?_
        refine ar_go rfl ?_
        refine ar_ldI rfl rfl ?_
        refine ar_ldI rfl rfl ?_
        refine ar_if2f rfl (by decide) ?_
        refine ar_ldA rfl rfl ?_
        refine ar_ldI rfl rfl ?_
        refine ar_ldJ rfl rfl ?_
        refine ar_astJ rfl (hs_eq (hs_eq (hs_eq (hs_eq (hs_eq (hs_eq (hs_eq (hs_eq (hs_eq (hs_eq (hs_eq (hs_eq (hs_eq (hs_eq (hs_eq (hs_eq (hs_eq (hs_eq (hs_eq (hs_eq (hs_eq rfl))))))))))))))))))))) (by decide) (Nat.le_of_ble_eq_true rfl) ?_
        refine ar_incl (z := 22) [some (.inr (.inr (some 45))), some (.inr (.inl _)), none, some (.inl 22), some (.inl 36)] rfl rfl (by decide) rfl ?_
        refine ar_go rfl ?_
        refine ar_ldI rfl rfl ?_
        refine ar_ldI rfl rfl ?_
        refine ar_if2f rfl (by decide) ?_
        refine ar_ldA rfl rfl ?_
        refine ar_ldI rfl rfl ?_
        refine ar_ldJ rfl rfl ?_
        refine ar_astJ rfl (hs_eq (hs_eq (hs_eq (hs_eq (hs_eq (hs_eq (hs_eq (hs_eq (hs_eq (hs_eq (hs_eq (hs_eq (hs_eq (hs_eq (hs_eq (hs_eq (hs_eq (hs_eq (hs_eq (hs_eq (hs_eq (hs_eq rfl)))))))))))))))))))))) (by decide) (Nat.le_of_ble_eq_true rfl) ?_
        refine ar_incl (z := 23) [some (.inr (.inr (some 45))), some (.inr (.inl _)), none, some (.inl 23), some (.inl 36)] rfl rfl (by decide) rfl ?_
        refine ar_go rfl ?_
        refine ar_ldI rfl rfl ?_
        refine ar_ldI rfl rfl ?_
        refine ar_if2f rfl (by decide) ?_
        refine ar_ldA rfl rfl ?_
        refine ar_ldI rfl rfl ?_
        refine ar_ldJ rfl rfl ?_
        refine ar_astJ rfl (hs_eq (hs_eq (hs_eq (hs_eq (hs_eq (hs_eq (hs_eq (hs_eq (hs_eq (hs_eq (hs_eq (hs_eq (hs_eq (hs_eq (hs_eq (hs_eq (hs_eq (hs_eq (hs_eq (hs_eq (hs_eq (hs_eq (hs_eq rfl))))))))))))))))))))))) (by decide) (Nat.le_of_ble_eq_true rfl) ?_
        refine ar_incl (z := 24) [some (.inr (.inr (some 45))), some (.inr (.inl _)), none, some (.inl 24), some (.inl 36)] rfl rfl (by decide) rfl ?_
        refine ar_go rfl ?_
        refine ar_ldI rfl rfl ?_
        refine ar_ldI rfl rfl ?_
        refine ar_if2f rfl (by decide) ?_
        refine ar_ldA rfl rfl ?_
        refine ar_ldI rfl rfl ?_
        refine ar_ldJ rfl rfl ?_
        refine ar_astJ rfl (hs_eq (hs_eq (hs_eq (hs_eq (hs_eq (hs_eq (hs_eq (hs_eq (hs_eq (hs_eq (hs_eq (hs_eq (hs_eq (hs_eq (hs_eq (hs_eq (hs_eq (hs_eq (hs_eq (hs_eq (hs_eq (hs_eq (hs_eq (hs_eq rfl)))))))))))))))))))))))) (by decide) (Nat.le_of_ble_eq_true rfl) ?_
        refine ar_incl (z := 25) [some (.inr (.inr (some 45))), some (.inr (.inl _)), none, some (.inl 25), some (.inl 36)] rfl rfl (by decide) rfl ?_
        refine ar_go rfl ?_
        refine ar_ldI rfl rfl ?_
        refine ar_ldI rfl rfl ?_
        refine ar_if2f rfl (by decide) ?_
        refine ar_ldA rfl rfl ?_
        refine ar_ldI rfl rfl ?_
        refine ar_ldJ rfl rfl ?_
        refine ar_astJ rfl (hs_eq (hs_eq (hs_eq (hs_eq (hs_eq (hs_eq (hs_eq (hs_eq (hs_eq (hs_eq (hs_eq (hs_eq (hs_eq (hs_eq (hs_eq (hs_eq (hs_eq (hs_eq (hs_eq (hs_eq (hs_eq (hs_eq (hs_eq (hs_eq (hs_eq rfl))))))))))))))))))))))))) (by decide) (Nat.le_of_ble_eq_true rfl) ?_
        refine ar_incl (z := 26) [some (.inr (.inr (some 45))), some (.inr (.inl _)), none, some (.inl 26), some (.inl 36)] rfl rfl (by decide) rfl ?_
        refine ar_go rfl ?_
        refine ar_ldI rfl rfl ?_
        refine ar_ldI rfl rfl ?_
        refine ar_if2f rfl (by decide) ?_
        refine ar_ldA rfl rfl ?_
        refine ar_ldI rfl rfl ?_
        refine ar_ldJ rfl rfl ?_
        refine ar_astJ rfl (hs_eq (hs_eq (hs_eq (hs_eq (hs_eq (hs_eq (hs_eq (hs_eq (hs_eq (hs_eq (hs_eq (hs_eq (hs_eq (hs_eq (hs_eq (hs_eq (hs_eq (hs_eq (hs_eq (hs_eq (hs_eq (hs_eq (hs_eq (hs_eq (hs_eq (hs_eq rfl)))))))))))))))))))))))))) (by decide) (Nat.le_of_ble_eq_true rfl) ?_
        refine ar_incl (z := 27) [some (.inr (.inr (some 45))), some (.inr (.inl _)), none, some (.inl 27), some (.inl 36)] rfl rfl (by decide) rfl ?_
        refine ar_go rfl ?_
        refine ar_ldI rfl rfl ?_
        refine ar_ldI rfl rfl ?_
        refine ar_if2f rfl (by decide) ?_
        refine ar_ldA rfl rfl ?_
        refine ar_ldI rfl rfl ?_
        refine ar_ldJ rfl rfl ?_
        refine ar_astJ rfl (hs_eq (hs_eq (hs_eq (hs_eq (hs_eq (hs_eq (hs_eq (hs_eq (hs_eq (hs_eq (hs_eq (hs_eq (hs_eq (hs_eq (hs_eq (hs_eq (hs_eq (hs_eq (hs_eq (hs_eq (hs_eq (hs_eq (hs_eq (hs_eq (hs_eq (hs_eq (hs_eq rfl))))))))))))))))))))))))))) (by decide) (Nat.le_of_ble_eq_true rfl) ?_
        refine ar_incl (z := 28) [some (.inr (.inr (some 45))), some (.inr (.inl _)), none, some (.inl 28), some (.inl 36)] rfl rfl (by decide) rfl ?_
        refine ar_go rfl ?_
        refine ar_ldI rfl rfl ?_
        refine ar_ldI rfl rfl ?_
        refine ar_if2f rfl (by decide) ?_
        refine ar_ldA rfl rfl ?_
        refine ar_ldI rfl rfl ?_
        refine ar_ldJ rfl rfl ?_
        refine ar_astJ rfl (hs_eq (hs_eq (hs_eq (hs_eq (hs_eq (hs_eq (hs_eq (hs_eq (hs_eq (hs_eq (hs_eq (hs_eq (hs_eq (hs_eq (hs_eq (hs_eq (hs_eq (hs_eq (hs_eq (hs_eq (hs_eq (hs_eq (hs_eq (hs_eq (hs_eq (hs_eq (hs_eq (hs_eq rfl)))))))))))))))))))))))))))) (by decide) (Nat.le_of_ble_eq_true rfl) ?_
        refine ar_incl (z := 29) [some (.inr (.inr (some 45))), some (.inr (.inl _)), none, some (.inl 29), some (.inl 36)] rfl rfl (by decide) rfl ?_
        refine ar_go rfl ?_
        refine ar_ldI rfl rfl ?_
        refine ar_ldI rfl rfl ?_
        refine ar_if2f rfl (by decide) ?_
        refine ar_ldA rfl rfl ?_
        refine ar_ldI rfl rfl ?_
        refine ar_ldJ rfl rfl ?_
        refine ar_astJ rfl (hs_eq (hs_eq (hs_eq (hs_eq (hs_eq (hs_eq (hs_eq (hs_eq (hs_eq (hs_eq (hs_eq (hs_eq (hs_eq (hs_eq (hs_eq (hs_eq (hs_eq (hs_eq (hs_eq (hs_eq (hs_eq (hs_eq (hs_eq (hs_eq (hs_eq (hs_eq (hs_eq (hs_eq (hs_eq rfl))))))))))))))))))))))))))))) (by decide) (Nat.le_of_ble_eq_true rfl) ?_
        refine ar_incl (z := 30) [some (.inr (.inr (some 45))), some (.inr (.inl _)), none, some (.inl 30), some (.inl 36)] rfl rfl (by decide) rfl ?_
        refine ar_go rfl ?_
        refine ar_ldI rfl rfl ?_
        refine ar_ldI rfl rfl ?_
        refine ar_if2f rfl (by decide) ?_
        refine ar_ldA rfl rfl ?_
        refine ar_ldI rfl rfl ?_
        refine ar_ldJ rfl rfl ?_
        refine ar_astJ rfl (hs_eq (hs_eq (hs_eq (hs_eq (hs_eq (hs_eq (hs_eq (hs_eq (hs_eq (hs_eq (hs_eq (hs_eq (hs_eq (hs_eq (hs_eq (hs_eq (hs_eq (hs_eq (hs_eq (hs_eq (hs_eq (hs_eq (hs_eq (hs_eq (hs_eq (hs_eq (hs_eq (hs_eq (hs_eq (hs_eq rfl)))))))))))))))))))))))))))))) (by decide) (Nat.le_of_ble_eq_true rfl) ?_
        refine ar_incl (z := 31) [some (.inr (.inr (some 45))), some (.inr (.inl _)), none, some (.inl 31), some (.inl 36)] rfl rfl (by decide) rfl ?_
        refine ar_go rfl ?_
        refine ar_ldI rfl rfl ?_
        refine ar_ldI rfl rfl ?_
        refine ar_if2f rfl (by decide) ?_
        refine ar_ldA rfl rfl ?_
        refine ar_ldI rfl rfl ?_
        refine ar_ldJ rfl rfl ?_
        refine ar_astJ rfl (hs_eq (hs_eq (hs_eq (hs_eq (hs_eq (hs_eq (hs_eq (hs_eq (hs_eq (hs_eq (hs_eq (hs_eq (hs_eq (hs_eq (hs_eq (hs_eq (hs_eq (hs_eq (hs_eq (hs_eq (hs_eq (hs_eq (hs_eq (hs_eq (hs_eq (hs_eq (hs_eq (hs_eq (hs_eq (hs_eq (hs_eq rfl))))))))))))))))))))))))))))))) (by decide) (Nat.le_of_ble_eq_true rfl) ?_
        refine ar_incl (z := 32) [some (.inr (.inr (some 45))), some (.inr (.inl _)), none, some (.inl 32), some (.inl 36)] rfl rfl (by decide) rfl ?_
        refine ar_go rfl ?_
        refine ar_ldI rfl rfl ?_
        refine ar_ldI rfl rfl ?_
        refine ar_if2f rfl (by decide) ?_
        refine ar_ldA rfl rfl ?_
        refine ar_ldI rfl rfl ?_
        refine ar_ldJ rfl rfl ?_
        refine ar_astJ rfl (hs_eq (hs_eq (hs_eq (hs_eq (hs_eq (hs_eq (hs_eq (hs_eq (hs_eq (hs_eq (hs_eq (hs_eq (hs_eq (hs_eq (hs_eq (hs_eq (hs_eq (hs_eq (hs_eq (hs_eq (hs_eq (hs_eq (hs_eq (hs_eq (hs_eq (hs_eq (hs_eq (hs_eq (hs_eq (hs_eq (hs_eq (hs_eq rfl)))))))))))))))))))))))))))))))) (by decide) (Nat.le_of_ble_eq_true rfl) ?_
        refine ar_incl (z := 33) [some (.inr (.inr (some 45))), some (.inr (.inl _)), none, some (.inl 33), some (.inl 36)] rfl rfl (by decide) rfl ?_
        refine ar_go rfl ?_
        refine ar_ldI rfl rfl ?_
        refine ar_ldI rfl rfl ?_
        refine ar_if2f rfl (by decide) ?_
        refine ar_ldA rfl rfl ?_
        refine ar_ldI rfl rfl ?_
        refine ar_ldJ rfl rfl ?_
        refine ar_astJ rfl (hs_eq (hs_eq (hs_eq (hs_eq (hs_eq (hs_eq (hs_eq (hs_eq (hs_eq (hs_eq (hs_eq (hs_eq (hs_eq (hs_eq (hs_eq (hs_eq (hs_eq (hs_eq (hs_eq (hs_eq (hs_eq (hs_eq (hs_eq (hs_eq (hs_eq (hs_eq (hs_eq (hs_eq (hs_eq (hs_eq (hs_eq (hs_eq (hs_eq rfl))))))))))))))))))))))))))))))))) (by decide) (Nat.le_of_ble_eq_true rfl) ?_
        refine ar_incl (z := 34) [some (.inr (.inr (some 45))), some (.inr (.inl _)), none, some (.inl 34), some (.inl 36)] rfl rfl (by decide) rfl ?_
        refine ar_go rfl ?_
        refine ar_ldI rfl rfl ?_
        refine ar_ldI rfl rfl ?_
        refine ar_if2f rfl (by decide) ?_
        refine ar_ldA rfl rfl ?_
        refine ar_ldI rfl rfl ?_
        refine ar_ldJ rfl rfl ?_
        refine ar_astJ rfl (hs_eq (hs_eq (hs_eq (hs_eq (hs_eq (hs_eq (hs_eq (hs_eq (hs_eq (hs_eq (hs_eq (hs_eq (hs_eq (hs_eq (hs_eq (hs_eq (hs_eq (hs_eq (hs_eq (hs_eq (hs_eq (hs_eq (hs_eq (hs_eq (hs_eq (hs_eq (hs_eq (hs_eq (hs_eq (hs_eq (hs_eq (hs_eq (hs_eq (hs_eq rfl)))))))))))))))))))))))))))))))))) (by decide) (Nat.le_of_ble_eq_true rfl) ?_
        refine ar_incl (z := 35) [some (.inr (.inr (some 45))), some (.inr (.inl _)), none, some (.inl 35), some (.inl 36)] rfl rfl (by decide) rfl ?_
        refine ar_go rfl ?_
        refine ar_ldI rfl rfl ?_
        refine ar_ldI rfl rfl ?_
        refine ar_if2f rfl (by decide) ?_
        refine ar_ldA rfl rfl ?_
        refine ar_ldI rfl rfl ?_
        refine ar_ldJ rfl rfl ?_
        refine ar_astJ rfl (hs_eq (hs_eq (hs_eq (hs_eq (hs_eq (hs_eq (hs_eq (hs_eq (hs_eq (hs_eq (hs_eq (hs_eq (hs_eq (hs_eq (hs_eq (hs_eq (hs_eq (hs_eq (hs_eq (hs_eq (hs_eq (hs_eq (hs_eq (hs_eq (hs_eq (hs_eq (hs_eq (hs_eq (hs_eq (hs_eq (hs_eq (hs_eq (hs_eq (hs_eq (hs_eq rfl))))))))))))))))))))))))))))))))))) (by decide) (Nat.le_of_ble_eq_true rfl) ?_
        refine ar_incl (z := 36) [some (.inr (.inr (some 45))), some (.inr (.inl _)), none, some (.inl 36), some (.inl 36)] rfl rfl (by decide) rfl ?_
        refine ar_go rfl ?_
        refine ar_ldI rfl rfl ?_
        refine ar_ldI rfl rfl ?_
        refine ar_if2t rfl (by decide) ?_
        refine ar_ret0 rfl ?_
        show aRun _ (aCall Mt _) _ 8 (_, [], _, _, _)
        refine ar_ldA rfl rfl ?_
        refine ar_get rfl (hs_ne (by decide) (hs_ne (by decide) (hs_ne (by decide) (hs_ne (by decide) (hs_ne (by decide) (hs_ne (by decide) (hs_ne (by decide) (hs_ne (by decide) (hs_ne (by decide) (hs_ne (by decide) (hs_ne (by decide) (hs_ne (by decide) (hs_ne (by decide) (hs_ne (by decide) (hs_ne (by decide) (hs_ne (by decide) (hs_ne (by decide) (hs_ne (by decide) (hs_ne (by decide) (hs_ne (by decide) (hs_ne (by decide) (hs_ne (by decide) (hs_ne (by decide) (hs_ne (by decide) (hs_ne (by decide) (hs_ne (by decide) (hs_ne (by decide) (hs_ne (by decide) (hs_ne (by decide) (hs_ne (by decide) (hs_ne (by decide) (hs_ne (by decide) (hs_ne (by decide) (hs_ne (by decide) (hs_ne (by decide) (hs_ne (by decide) rfl)))))))))))))))))))))))))))))))))))) rfl ?_
        refine ar_push rfl ?_
        refine ar_inl (mc := 0) (ms := 0) rfl rfl (Nat.le_of_ble_eq_true rfl) (Nat.le_of_ble_eq_true rfl) (by omega) (by omega) ?_
        refine ac_ink [some (.inr (.inr (some 46))), some (.inl (-1)), none, none] mt_307 (Nat.le_of_ble_eq_true rfl) rfl ?_
        refine ar_push rfl ?_
        refine ar_svIk [some (.inr (.inr (some 46))), some (.inl (-1)), some (.inl 0), none] rfl rfl ?_
        refine ar_ldA rfl rfl ?_
        refine ar_len rfl (hs_ne (by decide) (hs_ne (by decide) (hs_ne (by decide) (hs_ne (by decide) (hs_ne (by decide) (hs_ne (by decide) (hs_ne (by decide) (hs_ne (by decide) (hs_ne (by decide) (hs_ne (by decide) (hs_ne (by decide) (hs_ne (by decide) (hs_ne (by decide) (hs_ne (by decide) (hs_ne (by decide) (hs_ne (by decide) (hs_ne (by decide) (hs_ne (by decide) (hs_ne (by decide) (hs_ne (by decide) (hs_ne (by decide) (hs_ne (by decide) (hs_ne (by decide) (hs_ne (by decide) (hs_ne (by decide) (hs_ne (by decide) (hs_ne (by decide) (hs_ne (by decide) (hs_ne (by decide) (hs_ne (by decide) (hs_ne (by decide) (hs_ne (by decide) (hs_ne (by decide) (hs_ne (by decide) (hs_ne (by decide) (hs_ne (by decide) rfl)))))))))))))))))))))))))))))))))))) ?_
        refine ar_svIk [some (.inr (.inr (some 46))), some (.inl (-1)), some (.inl 0), some (.inl 12)] rfl rfl ?_
        refine ar_ldI rfl rfl ?_
        refine ar_ldI rfl rfl ?_
        refine ar_if2f rfl (by decide) ?_
        refine ar_ldA rfl rfl ?_
        refine ar_ldI rfl rfl ?_
        refine ar_ldI rfl rfl ?_
        refine ar_ast rfl (hs_ne (by decide) (hs_ne (by decide) (hs_ne (by decide) (hs_ne (by decide) (hs_ne (by decide) (hs_ne (by decide) (hs_ne (by decide) (hs_ne (by decide) (hs_ne (by decide) (hs_ne (by decide) (hs_ne (by decide) (hs_ne (by decide) (hs_ne (by decide) (hs_ne (by decide) (hs_ne (by decide) (hs_ne (by decide) (hs_ne (by decide) (hs_ne (by decide) (hs_ne (by decide) (hs_ne (by decide) (hs_ne (by decide) (hs_ne (by decide) (hs_ne (by decide) (hs_ne (by decide) (hs_ne (by decide) (hs_ne (by decide) (hs_ne (by decide) (hs_ne (by decide) (hs_ne (by decide) (hs_ne (by decide) (hs_ne (by decide) (hs_ne (by decide) (hs_ne (by decide) (hs_ne (by decide) (hs_ne (by decide) (hs_ne (by decide) rfl)))))))))))))))))))))))))))))))))))) (by decide) (Nat.le_of_ble_eq_true rfl) ?_
        refine ar_incl (z := 1) [some (.inr (.inr (some 46))), some (.inl (-1)), some (.inl 1), some (.inl 12)] rfl rfl (by decide) rfl ?_
        refine ar_go rfl ?_
        refine ar_ldI rfl rfl ?_
        refine ar_ldI rfl rfl ?_
        refine ar_if2f rfl (by decide) ?_
        refine ar_ldA rfl rfl ?_
        refine ar_ldI rfl rfl ?_
        refine ar_ldI rfl rfl ?_
        refine ar_ast rfl (hs_eq (hs_ne (by decide) (hs_ne (by decide) (hs_ne (by decide) (hs_ne (by decide) (hs_ne (by decide) (hs_ne (by decide) (hs_ne (by decide) (hs_ne (by decide) (hs_ne (by decide) (hs_ne (by decide) (hs_ne (by decide) (hs_ne (by decide) (hs_ne (by decide) (hs_ne (by decide) (hs_ne (by decide) (hs_ne (by decide) (hs_ne (by decide) (hs_ne (by decide) (hs_ne (by decide) (hs_ne (by decide) (hs_ne (by decide) (hs_ne (by decide) (hs_ne (by decide) (hs_ne (by decide) (hs_ne (by decide) (hs_ne (by decide) (hs_ne (by decide) (hs_ne (by decide) (hs_ne (by decide) (hs_ne (by decide) (hs_ne (by decide) (hs_ne (by decide) (hs_ne (by decide) (hs_ne (by decide) (hs_ne (by decide) (hs_ne (by decide) rfl))))))))))))))))))))))))))))))))))))) (by decide) (Nat.le_of_ble_eq_true rfl) ?_
        refine ar_incl (z := 2) [some (.inr (.inr (some 46))), some (.inl (-1)), some (.inl 2), some (.inl 12)] rfl rfl (by decide) rfl ?_
        refine ar_go rfl ?_
        refine ar_ldI rfl rfl ?_
        refine ar_ldI rfl rfl ?_
        refine ar_if2f rfl (by decide) ?_
        refine ar_ldA rfl rfl ?_
        refine ar_ldI rfl rfl ?_
        refine ar_ldI rfl rfl ?_
        refine ar_ast rfl (hs_eq (hs_eq (hs_ne (by decide) (hs_ne (by decide) (hs_ne (by decide) (hs_ne (by decide) (hs_ne (by decide) (hs_ne (by decide) (hs_ne (by decide) (hs_ne (by decide) (hs_ne (by decide) (hs_ne (by decide) (hs_ne (by decide) (hs_ne (by decide) (hs_ne (by decide) (hs_ne (by decide) (hs_ne (by decide) (hs_ne (by decide) (hs_ne (by decide) (hs_ne (by decide) (hs_ne (by decide) (hs_ne (by decide) (hs_ne (by decide) (hs_ne (by decide) (hs_ne (by decide) (hs_ne (by decide) (hs_ne (by decide) (hs_ne (by decide) (hs_ne (by decide) (hs_ne (by decide) (hs_ne (by decide) (hs_ne (by decide) (hs_ne (by decide) (hs_ne (by decide) (hs_ne (by decide) (hs_ne (by decide) (hs_ne (by decide) (hs_ne (by decide) rfl)))))))))))))))))))))))))))))))))))))) (by decide) (Nat.le_of_ble_eq_true rfl) ?_
        refine ar_incl (z := 3) [some (.inr (.inr (some 46))), some (.inl (-1)), some (.inl 3), some (.inl 12)] rfl rfl (by decide) rfl ?_
        refine ar_go rfl ?_
        refine ar_ldI rfl rfl ?_
        refine ar_ldI rfl rfl ?_
        refine ar_if2f rfl (by decide) ?_
        refine ar_ldA rfl rfl ?_
        refine ar_ldI rfl rfl ?_
        refine ar_ldI rfl rfl ?_
        refine ar_ast rfl (hs_eq (hs_eq (hs_eq (hs_ne (by decide) (hs_ne (by decide) (hs_ne (by decide) (hs_ne (by decide) (hs_ne (by decide) (hs_ne (by decide) (hs_ne (by decide) (hs_ne (by decide) (hs_ne (by decide) (hs_ne (by decide) (hs_ne (by decide) (hs_ne (by decide) (hs_ne (by decide) (hs_ne (by decide) (hs_ne (by decide) (hs_ne (by decide) (hs_ne (by decide) (hs_ne (by decide) (hs_ne (by decide) (hs_ne (by decide) (hs_ne (by decide) (hs_ne (by decide) (hs_ne (by decide) (hs_ne (by decide) (hs_ne (by decide) (hs_ne (by decide) (hs_ne (by decide) (hs_ne (by decide) (hs_ne (by decide) (hs_ne (by decide) (hs_ne (by decide) (hs_ne (by decide) (hs_ne (by decide) (hs_ne (by decide) (hs_ne (by decide) (hs_ne (by decide) rfl))))))))))))))))))))))))))))))))))))))) (by decide) (Nat.le_of_ble_eq_true rfl) ?_
        refine ar_incl (z := 4) [some (.inr (.inr (some 46))), some (.inl (-1)), some (.inl 4), some (.inl 12)] rfl rfl (by decide) rfl ?_
        refine ar_go rfl ?_
        refine ar_ldI rfl rfl ?_
        refine ar_ldI rfl rfl ?_
        refine ar_if2f rfl (by decide) ?_
        refine ar_ldA rfl rfl ?_
        refine ar_ldI rfl rfl ?_
        refine ar_ldI rfl rfl ?_
        refine ar_ast rfl (hs_eq (hs_eq (hs_eq (hs_eq (hs_ne (by decide) (hs_ne (by decide) (hs_ne (by decide) (hs_ne (by decide) (hs_ne (by decide) (hs_ne (by decide) (hs_ne (by decide) (hs_ne (by decide) (hs_ne (by decide) (hs_ne (by decide) (hs_ne (by decide) (hs_ne (by decide) (hs_ne (by decide) (hs_ne (by decide) (hs_ne (by decide) (hs_ne (by decide) (hs_ne (by decide) (hs_ne (by decide) (hs_ne (by decide) (hs_ne (by decide) (hs_ne (by decide) (hs_ne (by decide) (hs_ne (by decide) (hs_ne (by decide) (hs_ne (by decide) (hs_ne (by decide) (hs_ne (by decide) (hs_ne (by decide) (hs_ne (by decide) (hs_ne (by decide) (hs_ne (by decide) (hs_ne (by decide) (hs_ne (by decide) (hs_ne (by decide) (hs_ne (by decide) (hs_ne (by decide) rfl)))))))))))))))))))))))))))))))))))))))) (by decide) (Nat.le_of_ble_eq_true rfl) ?_
        refine ar_incl (z := 5) [some (.inr (.inr (some 46))), some (.inl (-1)), some (.inl 5), some (.inl 12)] rfl rfl (by decide) rfl ?_
        refine ar_go rfl ?_
        refine ar_ldI rfl rfl ?_
        refine ar_ldI rfl rfl ?_
        refine ar_if2f rfl (by decide) ?_
        refine ar_ldA rfl rfl ?_
        refine ar_ldI rfl rfl ?_
        refine ar_ldI rfl rfl ?_
        refine ar_ast rfl (hs_eq (hs_eq (hs_eq (hs_eq (hs_eq (hs_ne (by decide) (hs_ne (by decide) (hs_ne (by decide) (hs_ne (by decide) (hs_ne (by decide) (hs_ne (by decide) (hs_ne (by decide) (hs_ne (by decide) (hs_ne (by decide) (hs_ne (by decide) (hs_ne (by decide) (hs_ne (by decide) (hs_ne (by decide) (hs_ne (by decide) (hs_ne (by decide) (hs_ne (by decide) (hs_ne (by decide) (hs_ne (by decide) (hs_ne (by decide) (hs_ne (by decide) (hs_ne (by decide) (hs_ne (by decide) (hs_ne (by decide) (hs_ne (by decide) (hs_ne (by decide) (hs_ne (by decide) (hs_ne (by decide) (hs_ne (by decide) (hs_ne (by decide) (hs_ne (by decide) (hs_ne (by decide) (hs_ne (by decide) (hs_ne (by decide) (hs_ne (by decide) (hs_ne (by decide) (hs_ne (by decide) rfl))))))))))))))))))))))))))))))))))))))))) (by decide) (Nat.le_of_ble_eq_true rfl) ?_
        refine ar_incl (z := 6) [some (.inr (.inr (some 46))), some (.inl (-1)), some (.inl 6), some (.inl 12)] rfl rfl (by decide) rfl ?_
        refine ar_go rfl ?_
        refine ar_ldI rfl rfl ?_
        refine ar_ldI rfl rfl ?_
        refine ar_if2f rfl (by decide) ?_
        refine ar_ldA rfl rfl ?_
        refine ar_ldI rfl rfl ?_
        refine ar_ldI rfl rfl ?_
        refine ar_ast rfl (hs_eq (hs_eq (hs_eq (hs_eq (hs_eq (hs_eq (hs_ne (by decide) (hs_ne (by decide) (hs_ne (by decide) (hs_ne (by decide) (hs_ne (by decide) (hs_ne (by decide) (hs_ne (by decide) (hs_ne (by decide) (hs_ne (by decide) (hs_ne (by decide) (hs_ne (by decide) (hs_ne (by decide) (hs_ne (by decide) (hs_ne (by decide) (hs_ne (by decide) (hs_ne (by decide) (hs_ne (by decide) (hs_ne (by decide) (hs_ne (by decide) (hs_ne (by decide) (hs_ne (by decide) (hs_ne (by decide) (hs_ne (by decide) (hs_ne (by decide) (hs_ne (by decide) (hs_ne (by decide) (hs_ne (by decide) (hs_ne (by decide) (hs_ne (by decide) (hs_ne (by decide) (hs_ne (by decide) (hs_ne (by decide) (hs_ne (by decide) (hs_ne (by decide) (hs_ne (by decide) (hs_ne (by decide) rfl)))))))))))))))))))))))))))))))))))))))))) (by decide) (Nat.le_of_ble_eq_true rfl) ?_
        refine ar_incl (z := 7) [some (.inr (.inr (some 46))), some (.inl (-1)), some (.inl 7), some (.inl 12)] rfl rfl (by decide) rfl ?_
        refine ar_go rfl ?_
        refine ar_ldI rfl rfl ?_
        refine ar_ldI rfl rfl ?_
        refine ar_if2f rfl (by decide) ?_
        refine ar_ldA rfl rfl ?_
        refine ar_ldI rfl rfl ?_
        refine ar_ldI rfl rfl ?_
        refine ar_ast rfl (hs_eq (hs_eq (hs_eq (hs_eq (hs_eq (hs_eq (hs_eq (hs_ne (by decide) (hs_ne (by decide) (hs_ne (by decide) (hs_ne (by decide) (hs_ne (by decide) (hs_ne (by decide) (hs_ne (by decide) (hs_ne (by decide) (hs_ne (by decide) (hs_ne (by decide) (hs_ne (by decide) (hs_ne (by decide) (hs_ne (by decide) (hs_ne (by decide) (hs_ne (by decide) (hs_ne (by decide) (hs_ne (by decide) (hs_ne (by decide) (hs_ne (by decide) (hs_ne (by decide) (hs_ne (by decide) (hs_ne (by decide) (hs_ne (by decide) (hs_ne (by decide) (hs_ne (by decide) (hs_ne (by decide) (hs_ne (by decide) (hs_ne (by decide) (hs_ne (by decide) (hs_ne (by decide) (hs_ne (by decide) (hs_ne (by decide) (hs_ne (by decide) (hs_ne (by decide) (hs_ne (by decide) (hs_ne (by decide) rfl))))))))))))))))))))))))))))))))))))))))))) (by decide) (Nat.le_of_ble_eq_true rfl) ?_
        refine ar_incl (z := 8) [some (.inr (.inr (some 46))), some (.inl (-1)), some (.inl 8), some (.inl 12)] rfl rfl (by decide) rfl ?_
        refine ar_go rfl ?_
        refine ar_ldI rfl rfl ?_
        refine ar_ldI rfl rfl ?_
        refine ar_if2f rfl (by decide) ?_
        refine ar_ldA rfl rfl ?_
        refine ar_ldI rfl rfl ?_
        refine ar_ldI rfl rfl ?_
        refine ar_ast rfl (hs_eq (hs_eq (hs_eq (hs_eq (hs_eq (hs_eq (hs_eq (hs_eq (hs_ne (by decide) (hs_ne (by decide) (hs_ne (by decide) (hs_ne (by decide) (hs_ne (by decide) (hs_ne (by decide) (hs_ne (by decide) (hs_ne (by decide) (hs_ne (by decide) (hs_ne (by decide) (hs_ne (by decide) (hs_ne (by decide) (hs_ne (by decide) (hs_ne (by decide) (hs_ne (by decide) (hs_ne (by decide) (hs_ne (by decide) (hs_ne (by decide) (hs_ne (by decide) (hs_ne (by decide) (hs_ne (by decide) (hs_ne (by decide) (hs_ne (by decide) (hs_ne (by decide) (hs_ne (by decide) (hs_ne (by decide) (hs_ne (by decide) (hs_ne (by decide) (hs_ne (by decide) (hs_ne (by decide) (hs_ne (by decide) (hs_ne (by decide) (hs_ne (by decide) (hs_ne (by decide) (hs_ne (by decide) (hs_ne (by decide) rfl)))))))))))))))))))))))))))))))))))))))))))) (by decide) (Nat.le_of_ble_eq_true rfl) ?_
        refine ar_incl (z := 9) [some (.inr (.inr (some 46))), some (.inl (-1)), some (.inl 9), some (.inl 12)] rfl rfl (by decide) rfl ?_
        refine ar_go rfl ?_
        refine ar_ldI rfl rfl ?_
        refine ar_ldI rfl rfl ?_
        refine ar_if2f rfl (by decide) ?_
        refine ar_ldA rfl rfl ?_
        refine ar_ldI rfl rfl ?_
        refine ar_ldI rfl rfl ?_
        refine ar_ast rfl (hs_eq (hs_eq (hs_eq (hs_eq (hs_eq (hs_eq (hs_eq (hs_eq (hs_eq (hs_ne (by decide) (hs_ne (by decide) (hs_ne (by decide) (hs_ne (by decide) (hs_ne (by decide) (hs_ne (by decide) (hs_ne (by decide) (hs_ne (by decide) (hs_ne (by decide) (hs_ne (by decide) (hs_ne (by decide) (hs_ne (by decide) (hs_ne (by decide) (hs_ne (by decide) (hs_ne (by decide) (hs_ne (by decide) (hs_ne (by decide) (hs_ne (by decide) (hs_ne (by decide) (hs_ne (by decide) (hs_ne (by decide) (hs_ne (by decide) (hs_ne (by decide) (hs_ne (by decide) (hs_ne (by decide) (hs_ne (by decide) (hs_ne (by decide) (hs_ne (by decide) (hs_ne (by decide) (hs_ne (by decide) (hs_ne (by decide) (hs_ne (by decide) (hs_ne (by decide) (hs_ne (by decide) (hs_ne (by decide) (hs_ne (by decide) rfl))))))))))))))))))))))))))))))))))))))))))))) (by decide) (Nat.le_of_ble_eq_true rfl) ?_
        refine ar_incl (z := 10) [some (.inr (.inr (some 46))), some (.inl (-1)), some (.inl 10), some (.inl 12)] rfl rfl (by decide) rfl ?_
        refine ar_go rfl ?_
        refine ar_ldI rfl rfl ?_
        refine ar_ldI rfl rfl ?_
        refine ar_if2f rfl (by decide) ?_
        refine ar_ldA rfl rfl ?_
        refine ar_ldI rfl rfl ?_
        refine ar_ldI rfl rfl ?_
        refine ar_ast rfl (hs_eq (hs_eq (hs_eq (hs_eq (hs_eq (hs_eq (hs_eq (hs_eq (hs_eq (hs_eq (hs_ne (by decide) (hs_ne (by decide) (hs_ne (by decide) (hs_ne (by decide) (hs_ne (by decide) (hs_ne (by decide) (hs_ne (by decide) (hs_ne (by decide) (hs_ne (by decide) (hs_ne (by decide) (hs_ne (by decide) (hs_ne (by decide) (hs_ne (by decide) (hs_ne (by decide) (hs_ne (by decide) (hs_ne (by decide) (hs_ne (by decide) (hs_ne (by decide) (hs_ne (by decide) (hs_ne (by decide) (hs_ne (by decide) (hs_ne (by decide) (hs_ne (by decide) (hs_ne (by decide) (hs_ne (by decide) (hs_ne (by decide) (hs_ne (by decide) (hs_ne (by decide) (hs_ne (by decide) (hs_ne (by decide) (hs_ne (by decide) (hs_ne (by decide) (hs_ne (by decide) (hs_ne (by decide) (hs_ne (by decide) (hs_ne (by decide) rfl)))))))))))))))))))))))))))))))))))))))))))))) (by decide) (Nat.le_of_ble_eq_true rfl) ?_
        refine ar_incl (z := 11) [some (.inr (.inr (some 46))), some (.inl (-1)), some (.inl 11), some (.inl 12)] rfl rfl (by decide) rfl ?_
        refine ar_go rfl ?_
        refine ar_ldI rfl rfl ?_
        refine ar_ldI rfl rfl ?_
        refine ar_if2f rfl (by decide) ?_
        refine ar_ldA rfl rfl ?_
        refine ar_ldI rfl rfl ?_
        refine ar_ldI rfl rfl ?_
        refine ar_ast rfl (hs_eq (hs_eq (hs_eq (hs_eq (hs_eq (hs_eq (hs_eq (hs_eq (hs_eq (hs_eq (hs_eq (hs_ne (by decide) (hs_ne (by decide) (hs_ne (by decide) (hs_ne (by decide) (hs_ne (by decide) (hs_ne (by decide) (hs_ne (by decide) (hs_ne (by decide) (hs_ne (by decide) (hs_ne (by decide) (hs_ne (by decide) (hs_ne (by decide) (hs_ne (by decide) (hs_ne (by decide) (hs_ne (by decide) (hs_ne (by decide) (hs_ne (by decide) (hs_ne (by decide) (hs_ne (by decide) (hs_ne (by decide) (hs_ne (by decide) (hs_ne (by decide) (hs_ne (by decide) (hs_ne (by decide) (hs_ne (by decide) (hs_ne (by decide) (hs_ne (by decide) (hs_ne (by decide) (hs_ne (by decide) (hs_ne (by decide) (hs_ne (by decide) (hs_ne (by decide) (hs_ne (by decide) (hs_ne (by decide) (hs_ne (by decide) (hs_ne (by decide) rfl))))))))))))))))))))))))))))))))))))))))))))))) (by decide) (Nat.le_of_ble_eq_true rfl) ?_
        refine ar_incl (z := 12) [some (.inr (.inr (some 46))), some (.inl (-1)), some (.inl 12), some (.inl 12)] rfl rfl (by decide) rfl ?_
        refine ar_go rfl ?_
        refine ar_ldI rfl rfl ?_
        refine ar_ldI rfl rfl ?_
        refine ar_if2t rfl (by decide) ?_
        refine ar_ret0 rfl ?_
        show aRun _ (aCall Mt _) _ 16 (_, [], _, _, _)
        refine ar_ret0 rfl ?_
        show aRun _ (aCall Mt _) _ 36 (_, [], _, _, _)
        refine ar_ldA rfl rfl ?_
        refine ar_get rfl (hs_ne (by decide) (hs_ne (by decide) (hs_ne (by decide) (hs_ne (by decide) (hs_ne (by decide) (hs_ne (by decide) (hs_ne (by decide) (hs_ne (by decide) (hs_ne (by decide) (hs_ne (by decide) (hs_ne (by decide) (hs_ne (by decide) (hs_ne (by decide) (hs_ne (by decide) (hs_ne (by decide) (hs_ne (by decide) (hs_ne (by decide) (hs_ne (by decide) (hs_ne (by decide) (hs_ne (by decide) (hs_ne (by decide) (hs_ne (by decide) (hs_ne (by decide) (hs_ne (by decide) (hs_ne (by decide) (hs_ne (by decide) (hs_ne (by decide) (hs_ne (by decide) (hs_ne (by decide) (hs_ne (by decide) (hs_ne (by decide) (hs_ne (by decide) (hs_ne (by decide) (hs_ne (by decide) (hs_ne (by decide) (hs_ne (by decide) (hs_ne (by decide) (hs_ne (by decide) (hs_ne (by decide) (hs_ne (by decide) (hs_ne (by decide) (hs_ne (by decide) (hs_ne (by decide) (hs_ne (by decide) (hs_ne (by decide) (hs_ne (by decide) (hs_ne (by decide) (hs_ne (by decide) rfl)))))))))))))))))))))))))))))))))))))))))))))))) rfl ?_
        refine ar_ldI rfl rfl ?_
        refine ar_ldI rfl rfl ?_
        refine ar_ldI rfl rfl ?_
        refine ar_inl (mc := 0) (ms := 0) rfl (rcv_of (hs_ne (by decide) (hs_ne (by decide) (hs_ne (by decide) (hs_ne (by decide) (hs_ne (by decide) (hs_ne (by decide) (hs_ne (by decide) (hs_ne (by decide) (hs_ne (by decide) (hs_ne (by decide) (hs_ne (by decide) (hs_ne (by decide) (hs_ne (by decide) (hs_ne (by decide) (hs_ne (by decide) (hs_ne (by decide) (hs_ne (by decide) (hs_ne (by decide) (hs_ne (by decide) (hs_ne (by decide) (hs_ne (by decide) (hs_ne (by decide) (hs_ne (by decide) (hs_ne (by decide) (hs_ne (by decide) (hs_ne (by decide) (hs_ne (by decide) (hs_ne (by decide) (hs_ne (by decide) (hs_ne (by decide) (hs_ne (by decide) (hs_ne (by decide) (hs_ne (by decide) (hs_ne (by decide) (hs_ne (by decide) (hs_ne (by decide) (hs_ne (by decide) (hs_ne (by decide) (hs_ne (by decide) (hs_ne (by decide) (hs_ne (by decide) (hs_ne (by decide) (hs_ne (by decide) (hs_ne (by decide) (hs_ne (by decide) (hs_ne (by decide) (hs_ne (by decide) (hs_ne (by decide) rfl))))))))))))))))))))))))))))))))))))))))))))))))) (Nat.le_of_ble_eq_true rfl) (Nat.le_of_ble_eq_true rfl) (by omega) (by omega) ?_
        refine ac_ink [some (.inr (.inr (some 15))), some (.inl _), some (.inl _), some (.inl _), none, none] mt_12 (Nat.le_of_ble_eq_true rfl) rfl ?_
        refine ar_ldI rfl rfl ?_
        refine ar_push rfl ?_
        refine ar_push rfl ?_
        refine ar_callv rfl rfl (Nat.le_of_ble_eq_true rfl) (Nat.le_of_ble_eq_true rfl) rfl (sp_within _ _ _ _ _) ?_
        refine ar_if1t rfl (bi_n0t c1) ?_
        refine ar_ldA rfl rfl ?_
        refine ar_get rfl (hs_ne (by decide) (hs_ne (by decide) (hs_ne (by decide) (hs_ne (by decide) (hs_ne (by decide) (hs_ne (by decide) (hs_ne (by decide) (hs_ne (by decide) (hs_ne (by decide) (hs_ne (by decide) (hs_ne (by decide) (hs_ne (by decide) (hs_ne (by decide) (hs_ne (by decide) (hs_ne (by decide) (hs_ne (by decide) (hs_ne (by decide) (hs_ne (by decide) (hs_ne (by decide) (hs_ne (by decide) (hs_ne (by decide) (hs_ne (by decide) (hs_ne (by decide) (hs_ne (by decide) (hs_ne (by decide) (hs_ne (by decide) (hs_ne (by decide) (hs_ne (by decide) (hs_ne (by decide) (hs_ne (by decide) (hs_ne (by decide) (hs_ne (by decide) (hs_ne (by decide) (hs_ne (by decide) (hs_ne (by decide) (hs_ne (by decide) (hs_ne (by decide) (hs_ne (by decide) (hs_ne (by decide) (hs_ne (by decide) (hs_ne (by decide) (hs_ne (by decide) (hs_ne (by decide) (hs_ne (by decide) (hs_ne (by decide) (hs_ne (by decide) (hs_ne (by decide) (hs_ne (by decide) rfl)))))))))))))))))))))))))))))))))))))))))))))))) rfl ?_
        refine ar_ldI rfl rfl ?_
        refine ar_ldI rfl rfl ?_
        refine ar_ast rfl (hs_ne (by decide) (hs_ne (by decide) (hs_ne (by decide) (hs_ne (by decide) (hs_ne (by decide) (hs_ne (by decide) (hs_ne (by decide) (hs_ne (by decide) (hs_ne (by decide) (hs_ne (by decide) (hs_ne (by decide) (hs_ne (by decide) (hs_ne (by decide) (hs_ne (by decide) (hs_ne (by decide) (hs_ne (by decide) (hs_ne (by decide) (hs_ne (by decide) (hs_ne (by decide) (hs_ne (by decide) (hs_ne (by decide) (hs_ne (by decide) (hs_ne (by decide) (hs_ne (by decide) (hs_ne (by decide) (hs_ne (by decide) (hs_ne (by decide) (hs_ne (by decide) (hs_ne (by decide) (hs_ne (by decide) (hs_ne (by decide) (hs_ne (by decide) (hs_ne (by decide) (hs_ne (by decide) (hs_ne (by decide) (hs_ne (by decide) (hs_ne (by decide) (hs_ne (by decide) (hs_ne (by decide) (hs_ne (by decide) (hs_ne (by decide) (hs_ne (by decide) (hs_ne (by decide) (hs_ne (by decide) (hs_ne (by decide) (hs_ne (by decide) (hs_ne (by decide) (hs_ne (by decide) rfl)))))))))))))))))))))))))))))))))))))))))))))))) (wi_ix (m := 20) c1 (by decide)).1 (Nat.lt_of_lt_of_eq (wi_ix (m := 20) c1 (by decide)).2 (by simp)) ?_
        refine ar_ldA rfl rfl ?_
        refine ar_get rfl (hs_ne (by decide) (hs_ne (by decide) (hs_ne (by decide) (hs_ne (by decide) (hs_ne (by decide) (hs_ne (by decide) (hs_ne (by decide) (hs_ne (by decide) (hs_ne (by decide) (hs_ne (by decide) (hs_ne (by decide) (hs_ne (by decide) (hs_ne (by decide) (hs_ne (by decide) (hs_ne (by decide) (hs_ne (by decide) (hs_ne (by decide) (hs_ne (by decide) (hs_ne (by decide) (hs_ne (by decide) (hs_ne (by decide) (hs_ne (by decide) (hs_ne (by decide) (hs_ne (by decide) (hs_ne (by decide) (hs_ne (by decide) (hs_ne (by decide) (hs_ne (by decide) (hs_ne (by decide) (hs_ne (by decide) (hs_ne (by decide) (hs_ne (by decide) (hs_ne (by decide) (hs_ne (by decide) (hs_ne (by decide) (hs_ne (by decide) (hs_ne (by decide) (hs_ne (by decide) (hs_ne (by decide) (hs_ne (by decide) (hs_ne (by decide) (hs_ne (by decide) (hs_ne (by decide) (hs_ne (by decide) (hs_ne (by decide) (hs_ne (by decide) (hs_ne (by decide) (hs_ne (by decide) (hs_ne (by decide) rfl))))))))))))))))))))))))))))))))))))))))))))))))) rfl ?_
        refine ar_ldI rfl rfl ?_
        refine ar_ldI rfl rfl ?_
        refine ar_ast rfl (hs_ne (by decide) (hs_ne (by decide) (hs_ne (by decide) (hs_ne (by decide) (hs_ne (by decide) (hs_ne (by decide) (hs_ne (by decide) (hs_ne (by decide) (hs_ne (by decide) (hs_ne (by decide) (hs_ne (by decide) (hs_ne (by decide) (hs_ne (by decide) (hs_ne (by decide) (hs_ne (by decide) (hs_ne (by decide) (hs_ne (by decide) (hs_ne (by decide) (hs_ne (by decide) (hs_ne (by decide) (hs_ne (by decide) (hs_ne (by decide) (hs_ne (by decide) (hs_ne (by decide) (hs_ne (by decide) (hs_ne (by decide) (hs_ne (by decide) (hs_ne (by decide) (hs_ne (by decide) (hs_ne (by decide) (hs_ne (by decide) (hs_ne (by decide) (hs_ne (by decide) (hs_ne (by decide) (hs_ne (by decide) (hs_ne (by decide) (hs_ne (by decide) (hs_ne (by decide) (hs_ne (by decide) (hs_ne (by decide) (hs_ne (by decide) (hs_ne (by decide) (hs_ne (by decide) (hs_ne (by decide) (hs_ne (by decide) (hs_ne (by decide) (hs_ne (by decide) (hs_ne (by decide) (hs_ne (by decide) rfl))))))))))))))))))))))))))))))))))))))))))))))))) (wi_ix (m := 20) c1 (by decide)).1 (Nat.lt_of_lt_of_eq (wi_ix (m := 20) c1 (by decide)).2 (by simp)) ?_
        refine ar_push rfl ?_
        refine ar_svIk [some (.inr (.inr (some 15))), some (.inl _), some (.inl _), some (.inl _), some (.inl 0), none] rfl rfl ?_
        refine ar_ldI rfl rfl ?_
        refine ar_ldA rfl rfl ?_
        refine ar_get rfl (hs_ne (by decide) (hs_ne (by decide) (hs_ne (by decide) (hs_ne (by decide) (hs_ne (by decide) (hs_ne (by decide) (hs_ne (by decide) (hs_ne (by decide) (hs_ne (by decide) (hs_ne (by decide) (hs_ne (by decide) (hs_ne (by decide) (hs_ne (by decide) (hs_ne (by decide) (hs_ne (by decide) (hs_ne (by decide) (hs_ne (by decide) (hs_ne (by decide) (hs_ne (by decide) (hs_ne (by decide) (hs_ne (by decide) (hs_ne (by decide) (hs_ne (by decide) (hs_ne (by decide) (hs_ne (by decide) (hs_ne (by decide) (hs_ne (by decide) (hs_ne (by decide) (hs_ne (by decide) (hs_ne (by decide) (hs_ne (by decide) (hs_ne (by decide) (hs_ne (by decide) (hs_ne (by decide) (hs_ne (by decide) (hs_ne (by decide) (hs_ne (by decide) (hs_ne (by decide) (hs_ne (by decide) (hs_ne (by decide) (hs_ne (by decide) (hs_ne (by decide) (hs_ne (by decide) (hs_ne (by decide) (hs_ne (by decide) (hs_ne (by decide) (hs_ne (by decide) (hs_ne (by decide) (hs_ne (by decide) (hs_ne (by decide) rfl)))))))))))))))))))))))))))))))))))))))))))))))))) rfl ?_
        refine ar_if2t rfl (by decide) ?_
        refine ar_ret0 rfl ?_
        show aRun _ (aCall Mt _) _ 46 (_, [], _, _, _)
        refine ar_push rfl ?_
        refine ar_ret rfl rfl ?_
        refine ⟨_, 0, 0, _, rfl, Nat.zero_le _, Nat.zero_le _, (hs_ne (by decide) (hs_ne (by decide) (hs_ne (by decide) (hs_ne (by decide) (hs_ne (by decide) (hs_ne (by decide) (hs_ne (by decide) (hs_ne (by decide) (hs_ne (by decide) (hs_ne (by decide) (hs_ne (by decide) (hs_ne (by decide) (hs_ne (by decide) (hs_ne (by decide) (hs_ne (by decide) (hs_ne (by decide) (hs_ne (by decide) (hs_ne (by decide) (hs_ne (by decide) (hs_ne (by decide) (hs_ne (by decide) (hs_ne (by decide) (hs_ne (by decide) (hs_ne (by decide) (hs_ne (by decide) (hs_ne (by decide) (hs_ne (by decide) (hs_ne (by decide) (hs_ne (by decide) (hs_ne (by decide) (hs_ne (by decide) (hs_ne (by decide) (hs_ne (by decide) (hs_ne (by decide) (hs_ne (by decide) (hs_ne (by decide) (hs_ne (by decide) (hs_ne (by decide) (hs_ne (by decide) (hs_ne (by decide) (hs_ne (by decide) (hs_ne (by decide) (hs_ne (by decide) (hs_ne (by decide) (hs_ne (by decide) (hs_ne (by decide) (hs_ne (by decide) (hs_ne (by decide) (hs_ne (by decide) (hs_ne (by decide) rfl)))))))))))))))))))))))))))))))))))))))))))))))))), ?_⟩
        refine rgen ((((((((((((((((((((((((((((((((((((((((((((((((((rFr_F.sets (by decide)).sets (by decide)).sets (by decide)).sets (by decide)).sets (by decide)).sets (by decide)).sets (by decide)).sets (by decide)).sets (by decide)).sets (by decide)).sets (by decide)).sets (by decide)).sets (by decide)).sets (by decide)).sets (by decide)).sets (by decide)).sets (by decide)).sets (by decide)).sets (by decide)).sets (by decide)).sets (by decide)).sets (by decide)).sets (by decide)).sets (by decide)).sets (by decide)).sets (by decide)).sets (by decide)).sets (by decide)).sets (by decide)).sets (by decide)).sets (by decide)).sets (by decide)).sets (by decide)).sets (by decide)).sets (by decide)).sets (by decide)).sets (by decide)).sets (by decide)).sets (by decide)).sets (by decide)).sets (by decide)).sets (by decide)).sets (by decide)).sets (by decide)).sets (by decide)).sets (by decide)).sets (by decide)).sets (by decide)).sets (by decide)).sets (by decide)) (fun g hr => ?_)
        refine ac_ink [some (.inr (.inr (some 69))), some (.inl _), some (.inl _), some (.inl _)] mt_231 (Nat.le_of_ble_eq_true rfl) rfl ?_
        refine ar_ldI rfl rfl ?_
        refine ar_push rfl ?_
        refine ar_push rfl ?_
        refine ar_callv rfl rfl (Nat.le_of_ble_eq_true rfl) (Nat.le_of_ble_eq_true rfl) rfl (sp_in _ _ _ _ _) ?_
        refine ar_if1f rfl (bi_e0f c1) ?_
        refine ar_ldI rfl rfl ?_
        refine ar_inl (mc := 0) (ms := 0) rfl rfl (Nat.le_of_ble_eq_true rfl) (Nat.le_of_ble_eq_true rfl) (by omega) (by omega) ?_
        refine ac_ink [some (.inl _)] mt_189 (Nat.le_of_ble_eq_true rfl) rfl ?_
        refine ar_ldI rfl rfl ?_
        refine ar_push rfl ?_
        refine ar_push rfl ?_
        refine ar_callv rfl rfl (Nat.le_of_ble_eq_true rfl) (Nat.le_of_ble_eq_true rfl) rfl (sp_in _ _ _ _ _) ?_
        refine ar_ret rfl (bi_ret _) ?_
        show aRun _ (aCall Mt _) _ 14 (_, [_], _, _, _)
        refine ar_if1f rfl (bi_e0f c2) ?_
        refine ar_ldI rfl rfl ?_
        refine ar_push rfl ?_
        refine ar_if2 rfl (fun c4 => ?_) (fun c4 => ?_)
        · refine ar_ldA rfl rfl ?_
          refine ar_get rfl (hr.at 69 (by decide) (by decide) rfl) rfl ?_
          refine ar_ldI rfl rfl ?_
          refine ar_ldI rfl rfl ?_
          refine ar_ast rfl (hr.at 90 (by decide) (by decide) rfl) (wi_ix (m := 20) c1 (by decide)).1 (Nat.lt_of_lt_of_eq (wi_ix (m := 20) c1 (by decide)).2 (by simp)) ?_
          refine ar_ldA rfl rfl ?_
          refine ar_get rfl (hs_ne (by decide) (hr.at 69 (by decide) (by decide) rfl)) rfl ?_
          refine ar_ldI rfl rfl ?_
          refine ar_ldI rfl rfl ?_
          refine ar_ast rfl (hs_ne (by decide) (hr.at 92 (by decide) (by decide) rfl)) (wi_ix (m := 20) c1 (by decide)).1 (Nat.lt_of_lt_of_eq (wi_ix (m := 20) c1 (by decide)).2 (by simp)) ?_
          refine ar_ldA rfl rfl ?_
          refine ar_get rfl (hs_ne (by decide) (hs_ne (by decide) (hr.at 69 (by decide) (by decide) rfl))) rfl ?_
          refine ar_ldI rfl rfl ?_
          refine ar_ldI rfl rfl ?_
          refine ar_if1 rfl (fun c5 => ?_) (fun c5 => ?_)
          · refine ar_push rfl ?_
            refine ar_ast rfl (hs_ne (by decide) (hs_ne (by decide) (hr.at 91 (by decide) (by decide) rfl))) (wi_ix (m := 20) c1 (by decide)).1 (Nat.lt_of_lt_of_eq (wi_ix (m := 20) c1 (by decide)).2 (by simp)) ?_
            refine ar_push rfl ?_
            refine ar_ret rfl rfl ?_
            exact ⟨rfl, hJ _ _ _⟩
          · refine ar_push rfl ?_
            refine ar_go rfl ?_
            refine ar_ast rfl (hs_ne (by decide) (hs_ne (by decide) (hr.at 91 (by decide) (by decide) rfl))) (wi_ix (m := 20) c1 (by decide)).1 (Nat.lt_of_lt_of_eq (wi_ix (m := 20) c1 (by decide)).2 (by simp)) ?_
            refine ar_push rfl ?_
            refine ar_ret rfl rfl ?_
            exact ⟨rfl, hJ _ _ _⟩
        · refine ar_ldI rfl rfl ?_
          refine ar_inl (mc := 0) (ms := 0) rfl rfl (Nat.le_of_ble_eq_true rfl) (Nat.le_of_ble_eq_true rfl) (by omega) (by omega) ?_
          refine ac_ink [some (.inl _)] mt_189 (Nat.le_of_ble_eq_true rfl) rfl ?_
          refine ar_ldI rfl rfl ?_
          refine ar_push rfl ?_
          refine ar_push rfl ?_
          refine ar_callv rfl rfl (Nat.le_of_ble_eq_true rfl) (Nat.le_of_ble_eq_true rfl) rfl (sp_in _ _ _ _ _) ?_
          refine ar_ret rfl (bi_ret _) ?_
          show aRun _ (aCall Mt _) _ 26 (_, [_], _, _, _)
          refine ar_neB rfl (fun c6 => ?_) (fun c6 => ?_)
          · refine ar_ldA rfl rfl ?_
            refine ar_get rfl (hr.at 69 (by decide) (by decide) rfl) rfl ?_
            refine ar_ldI rfl rfl ?_
            refine ar_ldI rfl rfl ?_
            refine ar_ast rfl (hr.at 90 (by decide) (by decide) rfl) (wi_ix (m := 20) c1 (by decide)).1 (Nat.lt_of_lt_of_eq (wi_ix (m := 20) c1 (by decide)).2 (by simp)) ?_
            refine ar_ldA rfl rfl ?_
            refine ar_get rfl (hs_ne (by decide) (hr.at 69 (by decide) (by decide) rfl)) rfl ?_
            refine ar_ldI rfl rfl ?_
            refine ar_ldI rfl rfl ?_
            refine ar_ast rfl (hs_ne (by decide) (hr.at 92 (by decide) (by decide) rfl)) (wi_ix (m := 20) c1 (by decide)).1 (Nat.lt_of_lt_of_eq (wi_ix (m := 20) c1 (by decide)).2 (by simp)) ?_
            refine ar_ldA rfl rfl ?_
            refine ar_get rfl (hs_ne (by decide) (hs_ne (by decide) (hr.at 69 (by decide) (by decide) rfl))) rfl ?_
            refine ar_ldI rfl rfl ?_
            refine ar_ldI rfl rfl ?_
            refine ar_if1 rfl (fun c7 => ?_) (fun c7 => ?_)
            · refine ar_push rfl ?_
              refine ar_ast rfl (hs_ne (by decide) (hs_ne (by decide) (hr.at 91 (by decide) (by decide) rfl))) (wi_ix (m := 20) c1 (by decide)).1 (Nat.lt_of_lt_of_eq (wi_ix (m := 20) c1 (by decide)).2 (by simp)) ?_
              refine ar_push rfl ?_
              refine ar_ret rfl rfl ?_
              exact ⟨rfl, hJ _ _ _⟩
            · refine ar_push rfl ?_
              refine ar_go rfl ?_
              refine ar_ast rfl (hs_ne (by decide) (hs_ne (by decide) (hr.at 91 (by decide) (by decide) rfl))) (wi_ix (m := 20) c1 (by decide)).1 (Nat.lt_of_lt_of_eq (wi_ix (m := 20) c1 (by decide)).2 (by simp)) ?_
              refine ar_push rfl ?_
              refine ar_ret rfl rfl ?_
              exact ⟨rfl, hJ _ _ _⟩
          · refine ar_push rfl ?_
            refine ar_ret rfl rfl ?_
            exact ⟨by exfalso; have z0 := (wi_to c1); have z1 := (wi_to c2); have z2 := (wi_to c3); have z3 := (eq_no c4); have z4 := (wi_no c6); have y0 : ((-1) : Int32).toInt = -1 := (by decide); have y1 : ((0) : Int32).toInt = 0 := (by decide); have y2 : ((19) : Int32).toInt = 19 := (by decide); have y3 : ((999999) : Int32).toInt = 999999 := (by decide); omega, hJ _ _ _⟩
      · refine ar_push rfl ?_
        refine ar_ret rfl rfl ?_
        refine ⟨_, 0, 0, _, rfl, Nat.zero_le _, Nat.zero_le _, rfl, ?_⟩
        refine rgen rFr_F (fun g hr => ?_)
        refine ac_ink [some (.inr (.inr (some 69))), some (.inl _), some (.inl _), some (.inl _)] mt_231 (Nat.le_of_ble_eq_true rfl) rfl ?_
        refine ar_ldI rfl rfl ?_
        refine ar_push rfl ?_
        refine ar_push rfl ?_
        refine ar_callv rfl rfl (Nat.le_of_ble_eq_true rfl) (Nat.le_of_ble_eq_true rfl) rfl (sp_in _ _ _ _ _) ?_
        refine ar_if1f rfl (bi_e0f c1) ?_
        refine ar_ldI rfl rfl ?_
        refine ar_inl (mc := 0) (ms := 0) rfl rfl (Nat.le_of_ble_eq_true rfl) (Nat.le_of_ble_eq_true rfl) (by omega) (by omega) ?_
        refine ac_ink [some (.inl _)] mt_189 (Nat.le_of_ble_eq_true rfl) rfl ?_
        refine ar_ldI rfl rfl ?_
        refine ar_push rfl ?_
        refine ar_push rfl ?_
        refine ar_callv rfl rfl (Nat.le_of_ble_eq_true rfl) (Nat.le_of_ble_eq_true rfl) rfl (sp_in _ _ _ _ _) ?_
        refine ar_ret rfl (bi_ret _) ?_
        show aRun _ (aCall Mt _) _ 14 (_, [_], _, _, _)
        refine ar_if1f rfl (bi_e0f c2) ?_
        refine ar_ldI rfl rfl ?_
        refine ar_push rfl ?_
        refine ar_if2 rfl (fun c8 => ?_) (fun c8 => ?_)
        · refine ar_ldA rfl rfl ?_
          refine ar_get rfl (hr.at 69 (by decide) (by decide) rfl) rfl ?_
          refine ar_ldI rfl rfl ?_
          refine ar_ldI rfl rfl ?_
          refine ar_ast rfl (hr.at 90 (by decide) (by decide) rfl) (wi_ix (m := 20) c1 (by decide)).1 (Nat.lt_of_lt_of_eq (wi_ix (m := 20) c1 (by decide)).2 (by simp)) ?_
          refine ar_ldA rfl rfl ?_
          refine ar_get rfl (hs_ne (by decide) (hr.at 69 (by decide) (by decide) rfl)) rfl ?_
          refine ar_ldI rfl rfl ?_
          refine ar_ldI rfl rfl ?_
          refine ar_ast rfl (hs_ne (by decide) (hr.at 92 (by decide) (by decide) rfl)) (wi_ix (m := 20) c1 (by decide)).1 (Nat.lt_of_lt_of_eq (wi_ix (m := 20) c1 (by decide)).2 (by simp)) ?_
          refine ar_ldA rfl rfl ?_
          refine ar_get rfl (hs_ne (by decide) (hs_ne (by decide) (hr.at 69 (by decide) (by decide) rfl))) rfl ?_
          refine ar_ldI rfl rfl ?_
          refine ar_ldI rfl rfl ?_
          refine ar_if1 rfl (fun c9 => ?_) (fun c9 => ?_)
          · refine ar_push rfl ?_
            refine ar_ast rfl (hs_ne (by decide) (hs_ne (by decide) (hr.at 91 (by decide) (by decide) rfl))) (wi_ix (m := 20) c1 (by decide)).1 (Nat.lt_of_lt_of_eq (wi_ix (m := 20) c1 (by decide)).2 (by simp)) ?_
            refine ar_push rfl ?_
            refine ar_ret rfl rfl ?_
            exact ⟨by exfalso; have z0 := (wi_to c1); have z1 := (wi_to c2); have z2 := (wi_no c3); have z3 := (eq_to c8); have z4 := (lt_no (le_t c9)); have y0 : ((-1) : Int32).toInt = -1 := (by decide); have y1 : ((0) : Int32).toInt = 0 := (by decide); have y2 : ((19) : Int32).toInt = 19 := (by decide); have y3 : ((999999) : Int32).toInt = 999999 := (by decide); omega, hJ _ _ _⟩
          · refine ar_push rfl ?_
            refine ar_go rfl ?_
            refine ar_ast rfl (hs_ne (by decide) (hs_ne (by decide) (hr.at 91 (by decide) (by decide) rfl))) (wi_ix (m := 20) c1 (by decide)).1 (Nat.lt_of_lt_of_eq (wi_ix (m := 20) c1 (by decide)).2 (by simp)) ?_
            refine ar_push rfl ?_
            refine ar_ret rfl rfl ?_
            exact ⟨by exfalso; have z0 := (wi_to c1); have z1 := (wi_to c2); have z2 := (wi_no c3); have z3 := (eq_to c8); have z4 := (lt_to (le_f c9)); have y0 : ((-1) : Int32).toInt = -1 := (by decide); have y1 : ((0) : Int32).toInt = 0 := (by decide); have y2 : ((19) : Int32).toInt = 19 := (by decide); have y3 : ((999999) : Int32).toInt = 999999 := (by decide); omega, hJ _ _ _⟩
        · refine ar_ldI rfl rfl ?_
          refine ar_inl (mc := 0) (ms := 0) rfl rfl (Nat.le_of_ble_eq_true rfl) (Nat.le_of_ble_eq_true rfl) (by omega) (by omega) ?_
          refine ac_ink [some (.inl _)] mt_189 (Nat.le_of_ble_eq_true rfl) rfl ?_
          refine ar_ldI rfl rfl ?_
          refine ar_push rfl ?_
          refine ar_push rfl ?_
          refine ar_callv rfl rfl (Nat.le_of_ble_eq_true rfl) (Nat.le_of_ble_eq_true rfl) rfl (sp_in _ _ _ _ _) ?_
          refine ar_ret rfl (bi_ret _) ?_
          show aRun _ (aCall Mt _) _ 26 (_, [_], _, _, _)
          refine ar_neB rfl (fun c10 => ?_) (fun c10 => ?_)
          · refine ar_ldA rfl rfl ?_
            refine ar_get rfl (hr.at 69 (by decide) (by decide) rfl) rfl ?_
            refine ar_ldI rfl rfl ?_
            refine ar_ldI rfl rfl ?_
            refine ar_ast rfl (hr.at 90 (by decide) (by decide) rfl) (wi_ix (m := 20) c1 (by decide)).1 (Nat.lt_of_lt_of_eq (wi_ix (m := 20) c1 (by decide)).2 (by simp)) ?_
            refine ar_ldA rfl rfl ?_
            refine ar_get rfl (hs_ne (by decide) (hr.at 69 (by decide) (by decide) rfl)) rfl ?_
            refine ar_ldI rfl rfl ?_
            refine ar_ldI rfl rfl ?_
            refine ar_ast rfl (hs_ne (by decide) (hr.at 92 (by decide) (by decide) rfl)) (wi_ix (m := 20) c1 (by decide)).1 (Nat.lt_of_lt_of_eq (wi_ix (m := 20) c1 (by decide)).2 (by simp)) ?_
            refine ar_ldA rfl rfl ?_
            refine ar_get rfl (hs_ne (by decide) (hs_ne (by decide) (hr.at 69 (by decide) (by decide) rfl))) rfl ?_
            refine ar_ldI rfl rfl ?_
            refine ar_ldI rfl rfl ?_
            refine ar_if1 rfl (fun c11 => ?_) (fun c11 => ?_)
            · refine ar_push rfl ?_
              refine ar_ast rfl (hs_ne (by decide) (hs_ne (by decide) (hr.at 91 (by decide) (by decide) rfl))) (wi_ix (m := 20) c1 (by decide)).1 (Nat.lt_of_lt_of_eq (wi_ix (m := 20) c1 (by decide)).2 (by simp)) ?_
              refine ar_push rfl ?_
              refine ar_ret rfl rfl ?_
              exact ⟨by exfalso; have z0 := (wi_to c1); have z1 := (wi_to c2); have z2 := (wi_no c3); have z3 := (eq_no c8); have z4 := (wi_to c10); have z5 := (lt_no (le_t c11)); have y0 : ((-1) : Int32).toInt = -1 := (by decide); have y1 : ((0) : Int32).toInt = 0 := (by decide); have y2 : ((19) : Int32).toInt = 19 := (by decide); have y3 : ((999999) : Int32).toInt = 999999 := (by decide); omega, hJ _ _ _⟩
            · refine ar_push rfl ?_
              refine ar_go rfl ?_
              refine ar_ast rfl (hs_ne (by decide) (hs_ne (by decide) (hr.at 91 (by decide) (by decide) rfl))) (wi_ix (m := 20) c1 (by decide)).1 (Nat.lt_of_lt_of_eq (wi_ix (m := 20) c1 (by decide)).2 (by simp)) ?_
              refine ar_push rfl ?_
              refine ar_ret rfl rfl ?_
              exact ⟨by exfalso; have z0 := (wi_to c1); have z1 := (wi_to c2); have z2 := (wi_no c3); have z3 := (eq_no c8); have z4 := (wi_to c10); have z5 := (lt_to (le_f c11)); have y0 : ((-1) : Int32).toInt = -1 := (by decide); have y1 : ((0) : Int32).toInt = 0 := (by decide); have y2 : ((19) : Int32).toInt = 19 := (by decide); have y3 : ((999999) : Int32).toInt = 999999 := (by decide); omega, hJ _ _ _⟩
          · refine ar_push rfl ?_
            refine ar_ret rfl rfl ?_
            exact ⟨rfl, hJ _ _ _⟩

set_option maxRecDepth 20000 in
set_option maxHeartbeats 4000000 in
theorem p1_22 (x1 : Int32) (J : aH → Nat → Nat → Prop) (hJ : ∀ h a b, J h a b) (kc ks : Nat) (hkc : 1000 ≤ kc) (hks : 100000 ≤ ks) : aPairI 0 69 146 266 [.inl x1] J hF kc ks := by
  refine ⟨0, 0, _, by omega, by omega, rfl, ?_⟩
  refine ac_ink [some (.inr (.inr (some 0))), some (.inl _), none, none] mt_146 (Nat.le_of_ble_eq_true rfl) rfl ?_
  refine ar_ldI rfl rfl ?_
  refine ar_push rfl ?_
  refine ar_push rfl ?_
  refine ar_callv rfl rfl (Nat.le_of_ble_eq_true rfl) (Nat.le_of_ble_eq_true rfl) rfl (sp_within _ _ _ _ _) ?_
  refine ar_neB rfl (fun c1 => ?_) (fun c1 => ?_)
  · have wc1 := wi_to c1
    have lc1 : ((0) : Int32).toInt = 0 := by decide
    have rc1 : ((1) : Int32).toInt = 1 := by decide
    rcases (show x1.toInt = 0 ∨ x1.toInt = 1 by omega) with nc1 | nc1
    · cases en_of nc1 (show ((0) : Int32).toInt = 0 by decide)
      refine ar_ldA rfl rfl ?_
      refine ar_get rfl rfl rfl ?_
      refine ar_get rfl rfl rfl ?_
      refine ar_push rfl ?_
      refine ar_min rfl (by decide) ?_
      refine ar_svIk [some (.inr (.inr (some 0))), some (.inl 0), some (.inl 0), none] rfl rfl ?_
      refine ar_push rfl ?_
      refine ar_svIk [some (.inr (.inr (some 0))), some (.inl 0), some (.inl 0), some (.inl 0)] rfl rfl ?_
      refine ar_ldI rfl rfl ?_
      refine ar_ldI rfl rfl ?_
      refine ar_if2t rfl (by decide) ?_
      refine ar_ldA rfl rfl ?_
      refine ar_get rfl rfl rfl ?_
      refine ar_ldI rfl rfl ?_
      refine ar_inl (mc := 0) (ms := 0) rfl (rcv_of rfl) (Nat.le_of_ble_eq_true rfl) (Nat.le_of_ble_eq_true rfl) (by omega) (by omega) ?_
      refine ac_ink [some (.inr (.inr (some 41))), some (.inl 0), none, none, none, none, none] mt_79 (Nat.le_of_ble_eq_true rfl) rfl ?_
      refine ar_push rfl ?_
      refine ar_svIk [some (.inr (.inr (some 41))), some (.inl 0), some (.inl 0), none, none, none, none] rfl rfl ?_
      refine ar_push rfl ?_
      refine ar_svIk [some (.inr (.inr (some 41))), some (.inl 0), some (.inl 0), some (.inl 0), none, none, none] rfl rfl ?_
      refine ar_push rfl ?_
      refine ar_svIk [some (.inr (.inr (some 41))), some (.inl 0), some (.inl 0), some (.inl 0), some (.inl 1), none, none] rfl rfl ?_
      refine ar_ldI rfl rfl ?_
      refine ar_push rfl ?_
      refine ar_ldI rfl rfl ?_
      refine ar_bink (z := 1) rfl (by decide) ?_
      refine ar_if2t rfl (by decide) ?_
      refine ar_ldI rfl rfl ?_
      refine ar_ret rfl rfl ?_
      show aRun _ (aCall Mt _) _ 54 (_, [_], _, _, _)
      refine ar_svIk [some (.inr (.inr (some 0))), some (.inl 0), some (.inl 0), some (.inl 0)] rfl rfl ?_
      refine ar_ldI rfl rfl ?_
      refine ar_if1f rfl (by decide) ?_
      refine ar_ldI rfl rfl ?_
      refine ar_go rfl ?_
      refine ar_ret rfl rfl ?_
      refine ⟨_, 0, 0, _, rfl, Nat.zero_le _, Nat.zero_le _, rfl, ?_⟩
      refine rgen rFr_F (fun g hr => ?_)
      refine ac_ink [some (.inr (.inr (some 69))), some (.inl 0), none, none, none, none, none] mt_266 (Nat.le_of_ble_eq_true rfl) rfl ?_
      refine ar_ldI rfl rfl ?_
      refine ar_push rfl ?_
      refine ar_push rfl ?_
      refine ar_callv rfl rfl (Nat.le_of_ble_eq_true rfl) (Nat.le_of_ble_eq_true rfl) rfl (sp_in _ _ _ _ _) ?_
      refine ar_if1t rfl (bi_n0t (by decide)) ?_
      refine ar_ldA rfl rfl ?_
      refine ar_get rfl (hr.at 69 (by decide) (by decide) rfl) rfl ?_
      refine ar_push rfl ?_
      refine ar_if2f rfl (by decide) ?_
      refine ar_ldA rfl rfl ?_
      refine ar_get rfl (hr.at 69 (by decide) (by decide) rfl) rfl ?_
      refine ar_go rfl ?_
      refine ar_svIk [some (.inr (.inr (some 69))), some (.inl 0), some (.inl 0), none, none, none, none] rfl rfl ?_
      refine ar_ldA rfl rfl ?_
      refine ar_push rfl ?_
      refine ar_ldI rfl rfl ?_
      refine ar_bink (z := 1) rfl (by decide) ?_
      refine ar_push rfl ?_
      refine ar_bink (z := 0) rfl (by decide) ?_
      refine ar_inl (mc := 0) (ms := 0) rfl (rcv_of (hr.at 69 (by decide) (by decide) rfl)) (Nat.le_of_ble_eq_true rfl) (Nat.le_of_ble_eq_true rfl) (by omega) (by omega) ?_
      refine ac_ink [some (.inr (.inr (some 69))), some (.inl 0), none, none, none] mt_262 (Nat.le_of_ble_eq_true rfl) rfl ?_
      refine ar_push rfl ?_
      refine ar_svIk [some (.inr (.inr (some 69))), some (.inl 0), some (.inl 0), none, none] rfl rfl ?_
      refine ar_ldI rfl rfl ?_
      refine ar_ldA rfl rfl ?_
      refine ar_get rfl (hr.at 69 (by decide) (by decide) rfl) rfl ?_
      refine ar_if2t rfl (by decide) ?_
      refine ar_push rfl ?_
      refine ar_svIk [some (.inr (.inr (some 69))), some (.inl 0), some (.inl 0), none, none] rfl rfl ?_
      refine ar_ldI rfl rfl ?_
      refine ar_ldA rfl rfl ?_
      refine ar_get rfl (hr.at 69 (by decide) (by decide) rfl) rfl ?_
      refine ar_if2t rfl (by decide) ?_
      refine ar_ret0 rfl ?_
      show aRun _ (aCall Mt _) _ 40 (_, [], _, _, _)
      refine ar_push rfl ?_
      refine ar_svIk [some (.inr (.inr (some 69))), some (.inl 0), some (.inl 0), some (.inl 0), none, none, none] rfl rfl ?_
      refine ar_push rfl ?_
      refine ar_svIk [some (.inr (.inr (some 69))), some (.inl 0), some (.inl 0), some (.inl 0), some (.inl 0), none, none] rfl rfl ?_
      refine ar_push rfl ?_
      refine ar_svIk [some (.inr (.inr (some 69))), some (.inl 0), some (.inl 0), some (.inl 0), some (.inl 0), some (.inl 1), none] rfl rfl ?_
      refine ar_ldI rfl rfl ?_
      refine ar_push rfl ?_
      refine ar_ldI rfl rfl ?_
      refine ar_bink (z := 1) rfl (by decide) ?_
      refine ar_if2t rfl (by decide) ?_
      refine ar_ldI rfl rfl ?_
      refine ar_if1f rfl (by decide) ?_
      refine ar_ldI rfl rfl ?_
      refine ar_go rfl ?_
      refine ar_ret rfl rfl ?_
      exact ⟨rfl, hJ _ _ _⟩
    · cases en_of nc1 (show ((1) : Int32).toInt = 1 by decide)
      refine ar_ldA rfl rfl ?_
      refine ar_get rfl rfl rfl ?_
      refine ar_get rfl rfl rfl ?_
      refine ar_push rfl ?_
      refine ar_min rfl (by decide) ?_
      refine ar_svIk [some (.inr (.inr (some 0))), some (.inl 1), some (.inl 0), none] rfl rfl ?_
      refine ar_push rfl ?_
      refine ar_svIk [some (.inr (.inr (some 0))), some (.inl 1), some (.inl 0), some (.inl 0)] rfl rfl ?_
      refine ar_ldI rfl rfl ?_
      refine ar_ldI rfl rfl ?_
      refine ar_if2t rfl (by decide) ?_
      refine ar_ldA rfl rfl ?_
      refine ar_get rfl rfl rfl ?_
      refine ar_ldI rfl rfl ?_
      refine ar_inl (mc := 0) (ms := 0) rfl (rcv_of rfl) (Nat.le_of_ble_eq_true rfl) (Nat.le_of_ble_eq_true rfl) (by omega) (by omega) ?_
      refine ac_ink [some (.inr (.inr (some 41))), some (.inl 0), none, none, none, none, none] mt_79 (Nat.le_of_ble_eq_true rfl) rfl ?_
      refine ar_push rfl ?_
      refine ar_svIk [some (.inr (.inr (some 41))), some (.inl 0), some (.inl 0), none, none, none, none] rfl rfl ?_
      refine ar_push rfl ?_
      refine ar_svIk [some (.inr (.inr (some 41))), some (.inl 0), some (.inl 0), some (.inl 0), none, none, none] rfl rfl ?_
      refine ar_push rfl ?_
      refine ar_svIk [some (.inr (.inr (some 41))), some (.inl 0), some (.inl 0), some (.inl 0), some (.inl 1), none, none] rfl rfl ?_
      refine ar_ldI rfl rfl ?_
      refine ar_push rfl ?_
      refine ar_ldI rfl rfl ?_
      refine ar_bink (z := 1) rfl (by decide) ?_
      refine ar_if2t rfl (by decide) ?_
      refine ar_ldI rfl rfl ?_
      refine ar_ret rfl rfl ?_
      show aRun _ (aCall Mt _) _ 54 (_, [_], _, _, _)
      refine ar_svIk [some (.inr (.inr (some 0))), some (.inl 1), some (.inl 0), some (.inl 0)] rfl rfl ?_
      refine ar_ldI rfl rfl ?_
      refine ar_if1t rfl (by decide) ?_
      refine ar_ldA rfl rfl ?_
      refine ar_get rfl rfl rfl ?_
      refine ar_ldI rfl rfl ?_
      refine ar_inl (mc := 0) (ms := 0) rfl (rcv_of rfl) (Nat.le_of_ble_eq_true rfl) (Nat.le_of_ble_eq_true rfl) (by omega) (by omega) ?_
      refine ac_ink [some (.inr (.inr (some 41))), some (.inl 0), none, none, none, none, none, none, none, none] mt_78 (Nat.le_of_ble_eq_true rfl) rfl ?_
      refine ar_push rfl ?_
      refine ar_ldI rfl rfl ?_
      refine ar_inl (mc := 0) (ms := 0) rfl rfl (Nat.le_of_ble_eq_true rfl) (Nat.le_of_ble_eq_true rfl) (by omega) (by omega) ?_
      refine ac_ink [some (.inl 0)] mt_304 (Nat.le_of_ble_eq_true rfl) rfl ?_
      refine ar_ldI rfl rfl ?_
      refine ar_ldI rfl rfl ?_
      refine ar_push rfl ?_
      refine ar_bink (z := 0) rfl (by decide) ?_
      refine ar_push rfl ?_
      refine ar_bink (z := 0) rfl (by decide) ?_
      refine ar_bink (z := 0) rfl (by decide) ?_
      refine ar_svIk [some (.inl 0)] rfl rfl ?_
      refine ar_ldI rfl rfl ?_
      refine ar_push rfl ?_
      refine ar_bink (z := 0) rfl (by decide) ?_
      refine ar_ldI rfl rfl ?_
      refine ar_push rfl ?_
      refine ar_bink (z := 0) rfl (by decide) ?_
      refine ar_push rfl ?_
      refine ar_bink (z := 0) rfl (by decide) ?_
      refine ar_bink (z := 0) rfl (by decide) ?_
      refine ar_svIk [some (.inl 0)] rfl rfl ?_
      refine ar_ldI rfl rfl ?_
      refine ar_ldI rfl rfl ?_
      refine ar_push rfl ?_
      refine ar_bink (z := 0) rfl (by decide) ?_
      refine ar_bink (z := 0) rfl (by decide) ?_
      refine ar_push rfl ?_
      refine ar_bink (z := 0) rfl (by decide) ?_
      refine ar_svIk [some (.inl 0)] rfl rfl ?_
      refine ar_ldI rfl rfl ?_
      refine ar_ldI rfl rfl ?_
      refine ar_push rfl ?_
      refine ar_bink (z := 0) rfl (by decide) ?_
      refine ar_bink (z := 0) rfl (by decide) ?_
      refine ar_svIk [some (.inl 0)] rfl rfl ?_
      refine ar_ldI rfl rfl ?_
      refine ar_ldI rfl rfl ?_
      refine ar_push rfl ?_
      refine ar_bink (z := 0) rfl (by decide) ?_
      refine ar_bink (z := 0) rfl (by decide) ?_
      refine ar_svIk [some (.inl 0)] rfl rfl ?_
      refine ar_ldI rfl rfl ?_
      refine ar_push rfl ?_
      refine ar_bink (z := 0) rfl (by decide) ?_
      refine ar_ret rfl rfl ?_
      show aRun _ (aCall Mt _) _ 6 (_, [_, _], _, _, _)
      refine ar_bink (z := 0) rfl (by decide) ?_
      refine ar_svIk [some (.inr (.inr (some 41))), some (.inl 0), some (.inl 0), none, none, none, none, none, none, none] rfl rfl ?_
      refine ar_push rfl ?_
      refine ar_svJk [some (.inr (.inr (some 41))), some (.inl 0), some (.inl 0), some (.inr (.inl _)), none, none, none, none, none, none] rfl rfl ?_
      refine ar_push rfl ?_
      refine ar_svJk [some (.inr (.inr (some 41))), some (.inl 0), some (.inl 0), some (.inr (.inl _)), none, some (.inr (.inl _)), none, none, none, none] rfl rfl ?_
      refine ar_push rfl ?_
      refine ar_svJk [some (.inr (.inr (some 41))), some (.inl 0), some (.inl 0), some (.inr (.inl _)), none, some (.inr (.inl _)), none, some (.inr (.inl _)), none, none] rfl rfl ?_
      refine ar_push rfl ?_
      refine ar_svIk [some (.inr (.inr (some 41))), some (.inl 0), some (.inl 0), some (.inr (.inl _)), none, some (.inr (.inl _)), none, some (.inr (.inl _)), none, some (.inl 0)] rfl rfl ?_
      refine ar_ldI rfl rfl ?_
      refine ar_push rfl ?_
      refine ar_if2f rfl (by decide) ?_
      refine ar_ldI rfl rfl ?_
      refine ar_ldI rfl rfl ?_
      refine ar_bink (z := 0) rfl (by decide) ?_
      refine ar_push rfl ?_
      refine ar_bink (z := 0) rfl (by decide) ?_
      refine ar_if1f rfl (by decide) ?_
      refine ar_go rfl ?_
      refine ar_incl (z := 1) [some (.inr (.inr (some 41))), some (.inl 0), some (.inl 0), some (.inr (.inl _)), none, some (.inr (.inl _)), none, some (.inr (.inl _)), none, some (.inl 1)] rfl rfl (by decide) rfl ?_
      refine ar_go rfl ?_
      refine ar_ldI rfl rfl ?_
      refine ar_push rfl ?_
      refine ar_if2f rfl (by decide) ?_
      refine ar_ldI rfl rfl ?_
      refine ar_ldI rfl rfl ?_
      refine ar_bink (z := 0) rfl (by decide) ?_
      refine ar_push rfl ?_
      refine ar_bink (z := 0) rfl (by decide) ?_
      refine ar_if1f rfl (by decide) ?_
      refine ar_go rfl ?_
      refine ar_incl (z := 2) [some (.inr (.inr (some 41))), some (.inl 0), some (.inl 0), some (.inr (.inl _)), none, some (.inr (.inl _)), none, some (.inr (.inl _)), none, some (.inl 2)] rfl rfl (by decide) rfl ?_
      refine ar_go rfl ?_
      refine ar_ldI rfl rfl ?_
      refine ar_push rfl ?_
      refine ar_if2f rfl (by decide) ?_
      refine ar_ldI rfl rfl ?_
      refine ar_ldI rfl rfl ?_
      refine ar_bink (z := 0) rfl (by decide) ?_
      refine ar_push rfl ?_
      refine ar_bink (z := 0) rfl (by decide) ?_
      refine ar_if1f rfl (by decide) ?_
      refine ar_go rfl ?_
      refine ar_incl (z := 3) [some (.inr (.inr (some 41))), some (.inl 0), some (.inl 0), some (.inr (.inl _)), none, some (.inr (.inl _)), none, some (.inr (.inl _)), none, some (.inl 3)] rfl rfl (by decide) rfl ?_
      refine ar_go rfl ?_
      refine ar_ldI rfl rfl ?_
      refine ar_push rfl ?_
      refine ar_if2f rfl (by decide) ?_
      refine ar_ldI rfl rfl ?_
      refine ar_ldI rfl rfl ?_
      refine ar_bink (z := 0) rfl (by decide) ?_
      refine ar_push rfl ?_
      refine ar_bink (z := 0) rfl (by decide) ?_
      refine ar_if1f rfl (by decide) ?_
      refine ar_go rfl ?_
      refine ar_incl (z := 4) [some (.inr (.inr (some 41))), some (.inl 0), some (.inl 0), some (.inr (.inl _)), none, some (.inr (.inl _)), none, some (.inr (.inl _)), none, some (.inl 4)] rfl rfl (by decide) rfl ?_
      refine ar_go rfl ?_
      refine ar_ldI rfl rfl ?_
      refine ar_push rfl ?_
      refine ar_if2f rfl (by decide) ?_
      refine ar_ldI rfl rfl ?_
      refine ar_ldI rfl rfl ?_
      refine ar_bink (z := 0) rfl (by decide) ?_
      refine ar_push rfl ?_
      refine ar_bink (z := 0) rfl (by decide) ?_
      refine ar_if1f rfl (by decide) ?_
      refine ar_go rfl ?_
      refine ar_incl (z := 5) [some (.inr (.inr (some 41))), some (.inl 0), some (.inl 0), some (.inr (.inl _)), none, some (.inr (.inl _)), none, some (.inr (.inl _)), none, some (.inl 5)] rfl rfl (by decide) rfl ?_
      refine ar_go rfl ?_
      refine ar_ldI rfl rfl ?_
      refine ar_push rfl ?_
      refine ar_if2f rfl (by decide) ?_
      refine ar_ldI rfl rfl ?_
      refine ar_ldI rfl rfl ?_
      refine ar_bink (z := 0) rfl (by decide) ?_
      refine ar_push rfl ?_
      refine ar_bink (z := 0) rfl (by decide) ?_
      refine ar_if1f rfl (by decide) ?_
      refine ar_go rfl ?_
      refine ar_incl (z := 6) [some (.inr (.inr (some 41))), some (.inl 0), some (.inl 0), some (.inr (.inl _)), none, some (.inr (.inl _)), none, some (.inr (.inl _)), none, some (.inl 6)] rfl rfl (by decide) rfl ?_
      refine ar_go rfl ?_
      refine ar_ldI rfl rfl ?_
      refine ar_push rfl ?_
      refine ar_if2f rfl (by decide) ?_
      refine ar_ldI rfl rfl ?_
      refine ar_ldI rfl rfl ?_
      refine ar_bink (z := 0) rfl (by decide) ?_
      refine ar_push rfl ?_
      refine ar_bink (z := 0) rfl (by decide) ?_
      refine ar_if1f rfl (by decide) ?_
      refine ar_go rfl ?_
      refine ar_incl (z := 7) [some (.inr (.inr (some 41))), some (.inl 0), some (.inl 0), some (.inr (.inl _)), none, some (.inr (.inl _)), none, some (.inr (.inl _)), none, some (.inl 7)] rfl rfl (by decide) rfl ?_
      refine ar_go rfl ?_
      refine ar_ldI rfl rfl ?_
      refine ar_push rfl ?_
      refine ar_if2f rfl (by decide) ?_
      refine ar_ldI rfl rfl ?_
      refine ar_ldI rfl rfl ?_
      refine ar_bink (z := 0) rfl (by decide) ?_
      refine ar_push rfl ?_
      refine ar_bink (z := 0) rfl (by decide) ?_
      refine ar_if1f rfl (by decide) ?_
      refine ar_go rfl ?_
      refine ar_incl (z := 8) [some (.inr (.inr (some 41))), some (.inl 0), some (.inl 0), some (.inr (.inl _)), none, some (.inr (.inl _)), none, some (.inr (.inl _)), none, some (.inl 8)] rfl rfl (by decide) rfl ?_
      refine ar_go rfl ?_
      refine ar_ldI rfl rfl ?_
      refine ar_push rfl ?_
      refine ar_if2f rfl (by decide) ?_
      refine ar_ldI rfl rfl ?_
      refine ar_ldI rfl rfl ?_
      refine ar_bink (z := 0) rfl (by decide) ?_
      refine ar_push rfl ?_
      refine ar_bink (z := 0) rfl (by decide) ?_
      refine ar_if1f rfl (by decide) ?_
      refine ar_go rfl ?_
      refine ar_incl (z := 9) [some (.inr (.inr (some 41))), some (.inl 0), some (.inl 0), some (.inr (.inl _)), none, some (.inr (.inl _)), none, some (.inr (.inl _)), none, some (.inl 9)] rfl rfl (by decide) rfl ?_
      refine ar_go rfl ?_
      refine ar_ldI rfl rfl ?_
      refine ar_push rfl ?_
      refine ar_if2f rfl (by decide) ?_
      refine ar_ldI rfl rfl ?_
      refine ar_ldI rfl rfl ?_
      refine ar_bink (z := 0) rfl (by decide) ?_
      refine ar_push rfl ?_
      refine ar_bink (z := 0) rfl (by decide) ?_
      refine ar_if1f rfl (by decide) ?_
      refine ar_go rfl ?_
      refine ar_incl (z := 10) [some (.inr (.inr (some 41))), some (.inl 0), some (.inl 0), some (.inr (.inl _)), none, some (.inr (.inl _)), none, some (.inr (.inl _)), none, some (.inl 10)] rfl rfl (by decide) rfl ?_
      refine ar_go rfl ?_
      refine ar_ldI rfl rfl ?_
      refine ar_push rfl ?_
      refine ar_if2f rfl (by decide) ?_
      refine ar_ldI rfl rfl ?_
      refine ar_ldI rfl rfl ?_
      refine ar_bink (z := 0) rfl (by decide) ?_
      refine ar_push rfl ?_
      refine ar_bink (z := 0) rfl (by decide) ?_
      refine ar_if1f rfl (by decide) ?_
      refine ar_go rfl ?_
      refine ar_incl (z := 11) [some (.inr (.inr (some 41))), some (.inl 0), some (.inl 0), some (.inr (.inl _)), none, some (.inr (.inl _)), none, some (.inr (.inl _)), none, some (.inl 11)] rfl rfl (by decide) rfl ?_
      refine ar_go rfl ?_
      refine ar_ldI rfl rfl ?_
      refine ar_push rfl ?_
      refine ar_if2f rfl (by decide) ?_
      refine ar_ldI rfl rfl ?_
      refine ar_ldI rfl rfl ?_
      refine ar_bink (z := 0) rfl (by decide) ?_
      refine ar_push rfl ?_
      refine ar_bink (z := 0) rfl (by decide) ?_
      refine ar_if1f rfl (by decide) ?_
      refine ar_go rfl ?_
      refine ar_incl (z := 12) [some (.inr (.inr (some 41))), some (.inl 0), some (.inl 0), some (.inr (.inl _)), none, some (.inr (.inl _)), none, some (.inr (.inl _)), none, some (.inl 12)] rfl rfl (by decide) rfl ?_
      refine ar_go rfl ?_
      refine ar_ldI rfl rfl ?_
      refine ar_push rfl ?_
      refine ar_if2t rfl (by decide) ?_
      refine ar_ldI rfl rfl ?_
      refine ar_push rfl ?_
      refine ar_ldJ rfl rfl ?_
      refine ar_inl (mc := 0) (ms := 0) rfl rfl (Nat.le_of_ble_eq_true rfl) (Nat.le_of_ble_eq_true rfl) (by omega) (by omega) ?_
      refine ac_ink [some (.inr (.inl _)), none] mt_305 (Nat.le_of_ble_eq_true rfl) rfl ?_
      refine ar_ldJ rfl rfl ?_
      refine ar_ldJ rfl rfl ?_
      refine ar_push rfl ?_
      refine ar_shJk (z := 0) rfl (by decide) ?_
      refine ar_push rfl ?_
      refine ar_binJk (z := 0) rfl (by decide) ?_
      refine ar_binJk (z := 0) rfl (by decide) ?_
      refine ar_svJk [some (.inr (.inl _)), none] rfl rfl ?_
      refine ar_ldJ rfl rfl ?_
      refine ar_push rfl ?_
      refine ar_binJk (z := 0) rfl (by decide) ?_
      refine ar_ldJ rfl rfl ?_
      refine ar_push rfl ?_
      refine ar_shJk (z := 0) rfl (by decide) ?_
      refine ar_push rfl ?_
      refine ar_binJk (z := 0) rfl (by decide) ?_
      refine ar_binJk (z := 0) rfl (by decide) ?_
      refine ar_svJk [some (.inr (.inl _)), none] rfl rfl ?_
      refine ar_ldJ rfl rfl ?_
      refine ar_ldJ rfl rfl ?_
      refine ar_push rfl ?_
      refine ar_shJk (z := 0) rfl (by decide) ?_
      refine ar_binJk (z := 0) rfl (by decide) ?_
      refine ar_push rfl ?_
      refine ar_binJk (z := 0) rfl (by decide) ?_
      refine ar_svJk [some (.inr (.inl _)), none] rfl rfl ?_
      refine ar_ldJ rfl rfl ?_
      refine ar_ldJ rfl rfl ?_
      refine ar_push rfl ?_
      refine ar_shJk (z := 0) rfl (by decide) ?_
      refine ar_binJk (z := 0) rfl (by decide) ?_
      refine ar_svJk [some (.inr (.inl _)), none] rfl rfl ?_
      refine ar_ldJ rfl rfl ?_
      refine ar_ldJ rfl rfl ?_
      refine ar_push rfl ?_
      refine ar_shJk (z := 0) rfl (by decide) ?_
      refine ar_binJk (z := 0) rfl (by decide) ?_
      refine ar_svJk [some (.inr (.inl _)), none] rfl rfl ?_
      refine ar_ldJ rfl rfl ?_
      refine ar_ldJ rfl rfl ?_
      refine ar_push rfl ?_
      refine ar_shJk (z := 0) rfl (by decide) ?_
      refine ar_binJk (z := 0) rfl (by decide) ?_
      refine ar_svJk [some (.inr (.inl _)), none] rfl rfl ?_
      refine ar_ldJ rfl rfl ?_
      refine ar_l2ik (z := 0) rfl (by decide) ?_
      refine ar_push rfl ?_
      refine ar_bink (z := 0) rfl (by decide) ?_
      refine ar_ret rfl rfl ?_
      show aRun _ (aCall Mt _) _ 104 (_, [_, _, _], _, _, _)
      refine ar_ldJ rfl rfl ?_
      refine ar_inl (mc := 0) (ms := 0) rfl rfl (Nat.le_of_ble_eq_true rfl) (Nat.le_of_ble_eq_true rfl) (by omega) (by omega) ?_
      refine ac_ink [some (.inr (.inl _)), none] mt_305 (Nat.le_of_ble_eq_true rfl) rfl ?_
      refine ar_ldJ rfl rfl ?_
      refine ar_ldJ rfl rfl ?_
      refine ar_push rfl ?_
      refine ar_shJk (z := 0) rfl (by decide) ?_
      refine ar_push rfl ?_
      refine ar_binJk (z := 0) rfl (by decide) ?_
      refine ar_binJk (z := 0) rfl (by decide) ?_
      refine ar_svJk [some (.inr (.inl _)), none] rfl rfl ?_
      refine ar_ldJ rfl rfl ?_
      refine ar_push rfl ?_
      refine ar_binJk (z := 0) rfl (by decide) ?_
      refine ar_ldJ rfl rfl ?_
      refine ar_push rfl ?_
      refine ar_shJk (z := 0) rfl (by decide) ?_
      refine ar_push rfl ?_
      refine ar_binJk (z := 0) rfl (by decide) ?_
      refine ar_binJk (z := 0) rfl (by decide) ?_
      refine ar_svJk [some (.inr (.inl _)), none] rfl rfl ?_
      refine ar_ldJ rfl rfl ?_
      refine ar_ldJ rfl rfl ?_
      refine ar_push rfl ?_
      refine ar_shJk (z := 0) rfl (by decide) ?_
      refine ar_binJk (z := 0) rfl (by decide) ?_
      refine ar_push rfl ?_
      refine ar_binJk (z := 0) rfl (by decide) ?_
      refine ar_svJk [some (.inr (.inl _)), none] rfl rfl ?_
      refine ar_ldJ rfl rfl ?_
      refine ar_ldJ rfl rfl ?_
      refine ar_push rfl ?_
      refine ar_shJk (z := 0) rfl (by decide) ?_
      refine ar_binJk (z := 0) rfl (by decide) ?_
      refine ar_svJk [some (.inr (.inl _)), none] rfl rfl ?_
      refine ar_ldJ rfl rfl ?_
      refine ar_ldJ rfl rfl ?_
      refine ar_push rfl ?_
      refine ar_shJk (z := 0) rfl (by decide) ?_
      refine ar_binJk (z := 0) rfl (by decide) ?_
      refine ar_svJk [some (.inr (.inl _)), none] rfl rfl ?_
      refine ar_ldJ rfl rfl ?_
      refine ar_ldJ rfl rfl ?_
      refine ar_push rfl ?_
      refine ar_shJk (z := 0) rfl (by decide) ?_
      refine ar_binJk (z := 0) rfl (by decide) ?_
      refine ar_svJk [some (.inr (.inl _)), none] rfl rfl ?_
      refine ar_ldJ rfl rfl ?_
      refine ar_l2ik (z := 0) rfl (by decide) ?_
      refine ar_push rfl ?_
      refine ar_bink (z := 0) rfl (by decide) ?_
      refine ar_ret rfl rfl ?_
      show aRun _ (aCall Mt _) _ 109 (_, [_, _, _, _], _, _, _)
      refine ar_bink (z := 0) rfl (by decide) ?_
      refine ar_ldJ rfl rfl ?_
      refine ar_inl (mc := 0) (ms := 0) rfl rfl (Nat.le_of_ble_eq_true rfl) (Nat.le_of_ble_eq_true rfl) (by omega) (by omega) ?_
      refine ac_ink [some (.inr (.inl _)), none] mt_305 (Nat.le_of_ble_eq_true rfl) rfl ?_
      refine ar_ldJ rfl rfl ?_
      refine ar_ldJ rfl rfl ?_
      refine ar_push rfl ?_
      refine ar_shJk (z := 0) rfl (by decide) ?_
      refine ar_push rfl ?_
      refine ar_binJk (z := 0) rfl (by decide) ?_
      refine ar_binJk (z := 0) rfl (by decide) ?_
      refine ar_svJk [some (.inr (.inl _)), none] rfl rfl ?_
      refine ar_ldJ rfl rfl ?_
      refine ar_push rfl ?_
      refine ar_binJk (z := 0) rfl (by decide) ?_
      refine ar_ldJ rfl rfl ?_
      refine ar_push rfl ?_
      refine ar_shJk (z := 0) rfl (by decide) ?_
      refine ar_push rfl ?_
      refine ar_binJk (z := 0) rfl (by decide) ?_
      refine ar_binJk (z := 0) rfl (by decide) ?_
      refine ar_svJk [some (.inr (.inl _)), none] rfl rfl ?_
      refine ar_ldJ rfl rfl ?_
      refine ar_ldJ rfl rfl ?_
      refine ar_push rfl ?_
      refine ar_shJk (z := 0) rfl (by decide) ?_
      refine ar_binJk (z := 0) rfl (by decide) ?_
      refine ar_push rfl ?_
      refine ar_binJk (z := 0) rfl (by decide) ?_
      refine ar_svJk [some (.inr (.inl _)), none] rfl rfl ?_
      refine ar_ldJ rfl rfl ?_
      refine ar_ldJ rfl rfl ?_
      refine ar_push rfl ?_
      refine ar_shJk (z := 0) rfl (by decide) ?_
      refine ar_binJk (z := 0) rfl (by decide) ?_
      refine ar_svJk [some (.inr (.inl _)), none] rfl rfl ?_
      refine ar_ldJ rfl rfl ?_
      refine ar_ldJ rfl rfl ?_
      refine ar_push rfl ?_
      refine ar_shJk (z := 0) rfl (by decide) ?_
      refine ar_binJk (z := 0) rfl (by decide) ?_
      refine ar_svJk [some (.inr (.inl _)), none] rfl rfl ?_
      refine ar_ldJ rfl rfl ?_
      refine ar_ldJ rfl rfl ?_
      refine ar_push rfl ?_
      refine ar_shJk (z := 0) rfl (by decide) ?_
      refine ar_binJk (z := 0) rfl (by decide) ?_
      refine ar_svJk [some (.inr (.inl _)), none] rfl rfl ?_
      refine ar_ldJ rfl rfl ?_
      refine ar_l2ik (z := 0) rfl (by decide) ?_
      refine ar_push rfl ?_
      refine ar_bink (z := 0) rfl (by decide) ?_
      refine ar_ret rfl rfl ?_
      show aRun _ (aCall Mt _) _ 115 (_, [_, _, _, _], _, _, _)
      refine ar_bink (z := 0) rfl (by decide) ?_
      refine ar_bink (z := 0) rfl (by decide) ?_
      refine ar_bink (z := 0) rfl (by decide) ?_
      refine ar_ret rfl rfl ?_
      show aRun _ (aCall Mt _) _ 71 (_, [_], _, _, _)
      refine ar_ret rfl rfl ?_
      refine ⟨_, 0, 0, _, rfl, Nat.zero_le _, Nat.zero_le _, rfl, ?_⟩
      refine rgen rFr_F (fun g hr => ?_)
      refine ac_ink [some (.inr (.inr (some 69))), some (.inl 1), none, none, none, none, none] mt_266 (Nat.le_of_ble_eq_true rfl) rfl ?_
      refine ar_ldI rfl rfl ?_
      refine ar_push rfl ?_
      refine ar_push rfl ?_
      refine ar_callv rfl rfl (Nat.le_of_ble_eq_true rfl) (Nat.le_of_ble_eq_true rfl) rfl (sp_in _ _ _ _ _) ?_
      refine ar_if1t rfl (bi_n0t (by decide)) ?_
      refine ar_ldA rfl rfl ?_
      refine ar_get rfl (hr.at 69 (by decide) (by decide) rfl) rfl ?_
      refine ar_push rfl ?_
      refine ar_if2f rfl (by decide) ?_
      refine ar_ldA rfl rfl ?_
      refine ar_get rfl (hr.at 69 (by decide) (by decide) rfl) rfl ?_
      refine ar_go rfl ?_
      refine ar_svIk [some (.inr (.inr (some 69))), some (.inl 1), some (.inl 0), none, none, none, none] rfl rfl ?_
      refine ar_ldA rfl rfl ?_
      refine ar_push rfl ?_
      refine ar_ldI rfl rfl ?_
      refine ar_bink (z := 1) rfl (by decide) ?_
      refine ar_push rfl ?_
      refine ar_bink (z := 0) rfl (by decide) ?_
      refine ar_inl (mc := 0) (ms := 0) rfl (rcv_of (hr.at 69 (by decide) (by decide) rfl)) (Nat.le_of_ble_eq_true rfl) (Nat.le_of_ble_eq_true rfl) (by omega) (by omega) ?_
      refine ac_ink [some (.inr (.inr (some 69))), some (.inl 0), none, none, none] mt_262 (Nat.le_of_ble_eq_true rfl) rfl ?_
      refine ar_push rfl ?_
      refine ar_svIk [some (.inr (.inr (some 69))), some (.inl 0), some (.inl 0), none, none] rfl rfl ?_
      refine ar_ldI rfl rfl ?_
      refine ar_ldA rfl rfl ?_
      refine ar_get rfl (hr.at 69 (by decide) (by decide) rfl) rfl ?_
      refine ar_if2t rfl (by decide) ?_
      refine ar_push rfl ?_
      refine ar_svIk [some (.inr (.inr (some 69))), some (.inl 0), some (.inl 0), none, none] rfl rfl ?_
      refine ar_ldI rfl rfl ?_
      refine ar_ldA rfl rfl ?_
      refine ar_get rfl (hr.at 69 (by decide) (by decide) rfl) rfl ?_
      refine ar_if2t rfl (by decide) ?_
      refine ar_ret0 rfl ?_
      show aRun _ (aCall Mt _) _ 40 (_, [], _, _, _)
      refine ar_push rfl ?_
      refine ar_svIk [some (.inr (.inr (some 69))), some (.inl 1), some (.inl 0), some (.inl 0), none, none, none] rfl rfl ?_
      refine ar_push rfl ?_
      refine ar_svIk [some (.inr (.inr (some 69))), some (.inl 1), some (.inl 0), some (.inl 0), some (.inl 0), none, none] rfl rfl ?_
      refine ar_push rfl ?_
      refine ar_svIk [some (.inr (.inr (some 69))), some (.inl 1), some (.inl 0), some (.inl 0), some (.inl 0), some (.inl 1), none] rfl rfl ?_
      refine ar_ldI rfl rfl ?_
      refine ar_push rfl ?_
      refine ar_ldI rfl rfl ?_
      refine ar_bink (z := 1) rfl (by decide) ?_
      refine ar_if2t rfl (by decide) ?_
      refine ar_ldI rfl rfl ?_
      refine ar_if1t rfl (by decide) ?_
      refine ar_ldI rfl rfl ?_
      refine ar_ret rfl rfl ?_
      exact ⟨rfl, hJ _ _ _⟩
  · refine ar_push rfl ?_
    refine ar_ret rfl rfl ?_
    refine ⟨_, 0, 0, _, rfl, Nat.zero_le _, Nat.zero_le _, rfl, ?_⟩
    refine rgen rFr_F (fun g hr => ?_)
    refine ac_ink [some (.inr (.inr (some 69))), some (.inl _), none, none, none, none, none] mt_266 (Nat.le_of_ble_eq_true rfl) rfl ?_
    refine ar_ldI rfl rfl ?_
    refine ar_push rfl ?_
    refine ar_push rfl ?_
    refine ar_callv rfl rfl (Nat.le_of_ble_eq_true rfl) (Nat.le_of_ble_eq_true rfl) rfl (sp_in _ _ _ _ _) ?_
    refine ar_if1f rfl (bi_n0f c1) ?_
    refine ar_push rfl ?_
    refine ar_ret rfl rfl ?_
    exact ⟨rfl, hJ _ _ _⟩

set_option maxRecDepth 20000 in
set_option maxHeartbeats 4000000 in
theorem p1_41 (x1 : Int32) (J : aH → Nat → Nat → Prop) (hJ : ∀ h a b, J h a b) (kc ks : Nat) (hkc : 1000 ≤ kc) (hks : 100000 ≤ ks) : aPairI 0 69 165 295 [.inl x1] J hF kc ks := by
  refine ⟨0, 0, _, by omega, by omega, rfl, ?_⟩
  refine ac_ink [some (.inr (.inr (some 0))), some (.inl _)] mt_165 (Nat.le_of_ble_eq_true rfl) rfl ?_
  refine ar_ldI rfl rfl ?_
  by_cases c1 : (x1).toInt < 0 ∨ 6 < (x1).toInt
  · refine ar_tabO rfl (by rcases c1 with q | q; exact Or.inl q; exact Or.inr (by simp only [List.length_cons, List.length_nil]; omega)) ?_
    refine ar_push rfl ?_
    refine ar_ret rfl rfl ?_
    refine ⟨_, 0, 0, _, rfl, Nat.zero_le _, Nat.zero_le _, rfl, ?_⟩
    refine rgen rFr_F (fun g hr => ?_)
    refine ac_ink [some (.inr (.inr (some 69))), some (.inl _)] mt_295 (Nat.le_of_ble_eq_true rfl) rfl ?_
    refine ar_ldI rfl rfl ?_
    refine ar_tabO rfl (by rcases c1 with q | q; exact Or.inl q; exact Or.inr (by simp only [List.length_cons, List.length_nil]; omega)) ?_
    refine ar_push rfl ?_
    refine ar_ret rfl rfl ?_
    exact ⟨rfl, hJ _ _ _⟩
  · have ec1 : (x1).toInt = 0 ∨ (x1).toInt = 1 ∨ (x1).toInt = 2 ∨ (x1).toInt = 3 ∨ (x1).toInt = 4 ∨ (x1).toInt = 5 ∨ (x1).toInt = 6 := by omega
    rcases ec1 with ec1 | ec1 | ec1 | ec1 | ec1 | ec1 | ec1
    · refine ar_tabI rfl (by omega) (by rw [ec1]; rfl) ?_
      refine ar_ldA rfl rfl ?_
      refine ar_get rfl rfl rfl ?_
      refine ar_get rfl rfl rfl ?_
      refine ar_ret rfl rfl ?_
      refine ⟨_, 0, 0, _, rfl, Nat.zero_le _, Nat.zero_le _, rfl, ?_⟩
      refine rgen rFr_F (fun g hr => ?_)
      refine ac_ink [some (.inr (.inr (some 69))), some (.inl _)] mt_295 (Nat.le_of_ble_eq_true rfl) rfl ?_
      refine ar_ldI rfl rfl ?_
      refine ar_tabI rfl (by omega) (by rw [ec1]; rfl) ?_
      refine ar_ldA rfl rfl ?_
      refine ar_get rfl (hr.at 69 (by decide) (by decide) rfl) rfl ?_
      refine ar_ret rfl rfl ?_
      exact ⟨rfl, hJ _ _ _⟩
    · refine ar_tabI rfl (by omega) (by rw [ec1]; rfl) ?_
      refine ar_ldA rfl rfl ?_
      refine ar_get rfl rfl rfl ?_
      refine ar_get rfl rfl rfl ?_
      refine ar_ret rfl rfl ?_
      refine ⟨_, 0, 0, _, rfl, Nat.zero_le _, Nat.zero_le _, rfl, ?_⟩
      refine rgen rFr_F (fun g hr => ?_)
      refine ac_ink [some (.inr (.inr (some 69))), some (.inl _)] mt_295 (Nat.le_of_ble_eq_true rfl) rfl ?_
      refine ar_ldI rfl rfl ?_
      refine ar_tabI rfl (by omega) (by rw [ec1]; rfl) ?_
      refine ar_ldA rfl rfl ?_
      refine ar_get rfl (hr.at 69 (by decide) (by decide) rfl) rfl ?_
      refine ar_ret rfl rfl ?_
      exact ⟨rfl, hJ _ _ _⟩
    · refine ar_tabI rfl (by omega) (by rw [ec1]; rfl) ?_
      refine ar_ldA rfl rfl ?_
      refine ar_get rfl rfl rfl ?_
      refine ar_get rfl rfl rfl ?_
      refine ar_ret rfl rfl ?_
      refine ⟨_, 0, 0, _, rfl, Nat.zero_le _, Nat.zero_le _, rfl, ?_⟩
      refine rgen rFr_F (fun g hr => ?_)
      refine ac_ink [some (.inr (.inr (some 69))), some (.inl _)] mt_295 (Nat.le_of_ble_eq_true rfl) rfl ?_
      refine ar_ldI rfl rfl ?_
      refine ar_tabI rfl (by omega) (by rw [ec1]; rfl) ?_
      refine ar_ldA rfl rfl ?_
      refine ar_get rfl (hr.at 69 (by decide) (by decide) rfl) rfl ?_
      refine ar_ret rfl rfl ?_
      exact ⟨rfl, hJ _ _ _⟩
    · refine ar_tabI rfl (by omega) (by rw [ec1]; rfl) ?_
      refine ar_ldA rfl rfl ?_
      refine ar_get rfl rfl rfl ?_
      refine ar_get rfl rfl rfl ?_
      refine ar_ret rfl rfl ?_
      refine ⟨_, 0, 0, _, rfl, Nat.zero_le _, Nat.zero_le _, rfl, ?_⟩
      refine rgen rFr_F (fun g hr => ?_)
      refine ac_ink [some (.inr (.inr (some 69))), some (.inl _)] mt_295 (Nat.le_of_ble_eq_true rfl) rfl ?_
      refine ar_ldI rfl rfl ?_
      refine ar_tabI rfl (by omega) (by rw [ec1]; rfl) ?_
      refine ar_ldA rfl rfl ?_
      refine ar_get rfl (hr.at 69 (by decide) (by decide) rfl) rfl ?_
      refine ar_ret rfl rfl ?_
      exact ⟨rfl, hJ _ _ _⟩
    · refine ar_tabI rfl (by omega) (by rw [ec1]; rfl) ?_
      refine ar_ldA rfl rfl ?_
      refine ar_get rfl rfl rfl ?_
      refine ar_get rfl rfl rfl ?_
      refine ar_ret rfl rfl ?_
      refine ⟨_, 0, 0, _, rfl, Nat.zero_le _, Nat.zero_le _, rfl, ?_⟩
      refine rgen rFr_F (fun g hr => ?_)
      refine ac_ink [some (.inr (.inr (some 69))), some (.inl _)] mt_295 (Nat.le_of_ble_eq_true rfl) rfl ?_
      refine ar_ldI rfl rfl ?_
      refine ar_tabI rfl (by omega) (by rw [ec1]; rfl) ?_
      refine ar_ldA rfl rfl ?_
      refine ar_get rfl (hr.at 69 (by decide) (by decide) rfl) rfl ?_
      refine ar_ret rfl rfl ?_
      exact ⟨rfl, hJ _ _ _⟩
    · refine ar_tabI rfl (by omega) (by rw [ec1]; rfl) ?_
      refine ar_ldA rfl rfl ?_
      refine ar_get rfl rfl rfl ?_
      refine ar_get rfl rfl rfl ?_
      refine ar_ret rfl rfl ?_
      refine ⟨_, 0, 0, _, rfl, Nat.zero_le _, Nat.zero_le _, rfl, ?_⟩
      refine rgen rFr_F (fun g hr => ?_)
      refine ac_ink [some (.inr (.inr (some 69))), some (.inl _)] mt_295 (Nat.le_of_ble_eq_true rfl) rfl ?_
      refine ar_ldI rfl rfl ?_
      refine ar_tabI rfl (by omega) (by rw [ec1]; rfl) ?_
      refine ar_ldA rfl rfl ?_
      refine ar_get rfl (hr.at 69 (by decide) (by decide) rfl) rfl ?_
      refine ar_ret rfl rfl ?_
      exact ⟨rfl, hJ _ _ _⟩
    · refine ar_tabI rfl (by omega) (by rw [ec1]; rfl) ?_
      refine ar_ldA rfl rfl ?_
      refine ar_get rfl rfl rfl ?_
      refine ar_get rfl rfl rfl ?_
      refine ar_ret rfl rfl ?_
      refine ⟨_, 0, 0, _, rfl, Nat.zero_le _, Nat.zero_le _, rfl, ?_⟩
      refine rgen rFr_F (fun g hr => ?_)
      refine ac_ink [some (.inr (.inr (some 69))), some (.inl _)] mt_295 (Nat.le_of_ble_eq_true rfl) rfl ?_
      refine ar_ldI rfl rfl ?_
      refine ar_tabI rfl (by omega) (by rw [ec1]; rfl) ?_
      refine ar_ldA rfl rfl ?_
      refine ar_get rfl (hr.at 69 (by decide) (by decide) rfl) rfl ?_
      refine ar_ret rfl rfl ?_
      exact ⟨rfl, hJ _ _ _⟩
end P1C
