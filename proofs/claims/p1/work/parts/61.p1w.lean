section P1C
set_option maxRecDepth 20000 in
set_option maxHeartbeats 8000000 in
theorem p1_10 (x1 x2 x3 : Int32) (J : aH → Nat → Nat → Prop) (hJ : ∀ h a b, J h a b) (kc ks : Nat) (hkc : 1000 ≤ kc) (hks : 100000 ≤ ks) : aPairI 0 69 134 239 [.inl x1, .inl x2, .inl x3] J hF kc ks := by
  cases h0 : decide (x1 < 0) with
  | true =>
    refine ⟨1, 13, _, by omega, by omega, rfl, ?_⟩
    refine ac_ink [some (.inr (.inr (some 0))), some (.inl _), some (.inl _), some (.inl _), none, none, none, none] mt_134 (Nat.le_of_ble_eq_true rfl) rfl ?_
    refine ar_ldI rfl rfl ?_
    refine ar_push rfl ?_
    refine ar_div rfl (by decide) ?_
    refine ar_svIk [some (.inr (.inr (some 0))), some (.inl _), some (.inl _), some (.inl _), some (.inl _), none, none, none] rfl rfl ?_
    refine ar_ldI rfl rfl ?_
    refine ar_push rfl ?_
    refine ar_div rfl (by decide) ?_
    refine ar_push rfl ?_
    refine ar_div rfl (by decide) ?_
    refine ar_svIk [some (.inr (.inr (some 0))), some (.inl _), some (.inl _), some (.inl _), some (.inl _), some (.inl _), none, none] rfl rfl ?_
    refine ar_ldI rfl rfl ?_
    refine ar_push rfl ?_
    refine ar_div rfl (by decide) ?_
    refine ar_svIk [some (.inr (.inr (some 0))), some (.inl _), some (.inl _), some (.inl _), some (.inl _), some (.inl _), some (.inl _), none] rfl rfl ?_
    refine ar_ldI rfl rfl ?_
    refine ar_if1t rfl h0 ?_
    refine ar_push rfl ?_
    refine ar_ret rfl rfl ?_
    refine ⟨_, 0, 0, _, rfl, Nat.zero_le _, Nat.zero_le _, rfl, ?_⟩
    refine rgen rFr_F (fun g hr => ?_)
    refine ac_ink [some (.inr (.inr (some 69))), some (.inl _), some (.inl _), some (.inl _), none, none, none] mt_239 (Nat.le_of_ble_eq_true rfl) rfl ?_
    refine ar_ldI rfl rfl ?_
    refine ar_push rfl ?_
    refine ar_div rfl (by decide) ?_
    refine ar_svIk [some (.inr (.inr (some 69))), some (.inl _), some (.inl _), some (.inl _), some (.inl _), none, none] rfl rfl ?_
    refine ar_ldI rfl rfl ?_
    refine ar_push rfl ?_
    refine ar_div rfl (by decide) ?_
    refine ar_push rfl ?_
    refine ar_div rfl (by decide) ?_
    refine ar_svIk [some (.inr (.inr (some 69))), some (.inl _), some (.inl _), some (.inl _), some (.inl _), some (.inl _), none] rfl rfl ?_
    refine ar_ldI rfl rfl ?_
    refine ar_push rfl ?_
    refine ar_div rfl (by decide) ?_
    refine ar_svIk [some (.inr (.inr (some 69))), some (.inl _), some (.inl _), some (.inl _), some (.inl _), some (.inl _), some (.inl _)] rfl rfl ?_
    refine ar_ldI rfl rfl ?_
    refine ar_if1t rfl h0 ?_
    refine ar_push rfl ?_
    refine ar_ret rfl rfl ?_
    exact ⟨rfl, hJ _ _ _⟩
  | false =>
    cases h8 : decide (((x1 / 100) - (x1 / 100) / 100 * 100) < 8) with
    | false =>
      refine ⟨1, 13, _, by omega, by omega, rfl, ?_⟩
      refine ac_ink [some (.inr (.inr (some 0))), some (.inl _), some (.inl _), some (.inl _), none, none, none, none] mt_134 (Nat.le_of_ble_eq_true rfl) rfl ?_
      refine ar_ldI rfl rfl ?_
      refine ar_push rfl ?_
      refine ar_div rfl (by decide) ?_
      refine ar_svIk [some (.inr (.inr (some 0))), some (.inl _), some (.inl _), some (.inl _), some (.inl _), none, none, none] rfl rfl ?_
      refine ar_ldI rfl rfl ?_
      refine ar_push rfl ?_
      refine ar_div rfl (by decide) ?_
      refine ar_push rfl ?_
      refine ar_div rfl (by decide) ?_
      refine ar_svIk [some (.inr (.inr (some 0))), some (.inl _), some (.inl _), some (.inl _), some (.inl _), some (.inl _), none, none] rfl rfl ?_
      refine ar_ldI rfl rfl ?_
      refine ar_push rfl ?_
      refine ar_div rfl (by decide) ?_
      refine ar_svIk [some (.inr (.inr (some 0))), some (.inl _), some (.inl _), some (.inl _), some (.inl _), some (.inl _), some (.inl _), none] rfl rfl ?_
      refine ar_ldI rfl rfl ?_
      refine ar_if1f rfl h0 ?_
      refine ar_ldI rfl rfl ?_
      refine ar_inl (mc := 0) (ms := 0) rfl rfl (Nat.le_of_ble_eq_true rfl) (Nat.le_of_ble_eq_true rfl) (by omega) (by omega) ?_
      refine ac_ink [some (.inl _)] mt_175 (Nat.le_of_ble_eq_true rfl) rfl ?_
      refine ar_ldI rfl rfl ?_
      refine ar_push rfl ?_
      refine ar_push rfl ?_
      refine ar_callv rfl rfl (Nat.le_of_ble_eq_true rfl) (Nat.le_of_ble_eq_true rfl) rfl (sp_within _ _ _ _ _) ?_
      refine ar_ret rfl (bi_ret _) ?_
      show aRun _ (aCall Mt _) _ 31 (_, [_], _, _, _)
      refine ar_eqB rfl (fun c101 => ?_) (fun c101 => ?_)
      · refine ar_push rfl ?_
        refine ar_ret rfl rfl ?_
        refine ⟨_, 0, 0, _, rfl, Nat.zero_le _, Nat.zero_le _, rfl, ?_⟩
        refine rgen rFr_F (fun g hr => ?_)
        refine ac_ink [some (.inr (.inr (some 69))), some (.inl _), some (.inl _), some (.inl _), none, none, none] mt_239 (Nat.le_of_ble_eq_true rfl) rfl ?_
        refine ar_ldI rfl rfl ?_
        refine ar_push rfl ?_
        refine ar_div rfl (by decide) ?_
        refine ar_svIk [some (.inr (.inr (some 69))), some (.inl _), some (.inl _), some (.inl _), some (.inl _), none, none] rfl rfl ?_
        refine ar_ldI rfl rfl ?_
        refine ar_push rfl ?_
        refine ar_div rfl (by decide) ?_
        refine ar_push rfl ?_
        refine ar_div rfl (by decide) ?_
        refine ar_svIk [some (.inr (.inr (some 69))), some (.inl _), some (.inl _), some (.inl _), some (.inl _), some (.inl _), none] rfl rfl ?_
        refine ar_ldI rfl rfl ?_
        refine ar_push rfl ?_
        refine ar_div rfl (by decide) ?_
        refine ar_svIk [some (.inr (.inr (some 69))), some (.inl _), some (.inl _), some (.inl _), some (.inl _), some (.inl _), some (.inl _)] rfl rfl ?_
        refine ar_ldI rfl rfl ?_
        refine ar_if1f rfl h0 ?_
        refine ar_ldI rfl rfl ?_
        refine ar_inl (mc := 0) (ms := 0) rfl rfl (Nat.le_of_ble_eq_true rfl) (Nat.le_of_ble_eq_true rfl) (by omega) (by omega) ?_
        refine ac_ink [some (.inl _)] mt_190 (Nat.le_of_ble_eq_true rfl) rfl ?_
        refine ar_ldI rfl rfl ?_
        refine ar_push rfl ?_
        refine ar_push rfl ?_
        refine ar_callv rfl rfl (Nat.le_of_ble_eq_true rfl) (Nat.le_of_ble_eq_true rfl) rfl (sp_in _ _ _ _ _) ?_
        refine ar_ret rfl (bi_ret _) ?_
        show aRun _ (aCall Mt _) _ 31 (_, [_], _, _, _)
        refine ar_if1t rfl (bi_e0t c101) ?_
        refine ar_push rfl ?_
        refine ar_ret rfl rfl ?_
        exact ⟨rfl, hJ _ _ _⟩
      · refine ar_ldI rfl rfl ?_
        refine ar_push rfl ?_
        refine ar_if2t rfl (lt_f h8) ?_
        refine ar_push rfl ?_
        refine ar_ret rfl rfl ?_
        refine ⟨_, 0, 0, _, rfl, Nat.zero_le _, Nat.zero_le _, rfl, ?_⟩
        refine rgen rFr_F (fun g hr => ?_)
        refine ac_ink [some (.inr (.inr (some 69))), some (.inl _), some (.inl _), some (.inl _), none, none, none] mt_239 (Nat.le_of_ble_eq_true rfl) rfl ?_
        refine ar_ldI rfl rfl ?_
        refine ar_push rfl ?_
        refine ar_div rfl (by decide) ?_
        refine ar_svIk [some (.inr (.inr (some 69))), some (.inl _), some (.inl _), some (.inl _), some (.inl _), none, none] rfl rfl ?_
        refine ar_ldI rfl rfl ?_
        refine ar_push rfl ?_
        refine ar_div rfl (by decide) ?_
        refine ar_push rfl ?_
        refine ar_div rfl (by decide) ?_
        refine ar_svIk [some (.inr (.inr (some 69))), some (.inl _), some (.inl _), some (.inl _), some (.inl _), some (.inl _), none] rfl rfl ?_
        refine ar_ldI rfl rfl ?_
        refine ar_push rfl ?_
        refine ar_div rfl (by decide) ?_
        refine ar_svIk [some (.inr (.inr (some 69))), some (.inl _), some (.inl _), some (.inl _), some (.inl _), some (.inl _), some (.inl _)] rfl rfl ?_
        refine ar_ldI rfl rfl ?_
        refine ar_if1f rfl h0 ?_
        refine ar_ldI rfl rfl ?_
        refine ar_inl (mc := 0) (ms := 0) rfl rfl (Nat.le_of_ble_eq_true rfl) (Nat.le_of_ble_eq_true rfl) (by omega) (by omega) ?_
        refine ac_ink [some (.inl _)] mt_190 (Nat.le_of_ble_eq_true rfl) rfl ?_
        refine ar_ldI rfl rfl ?_
        refine ar_push rfl ?_
        refine ar_push rfl ?_
        refine ar_callv rfl rfl (Nat.le_of_ble_eq_true rfl) (Nat.le_of_ble_eq_true rfl) rfl (sp_in _ _ _ _ _) ?_
        refine ar_ret rfl (bi_ret _) ?_
        show aRun _ (aCall Mt _) _ 31 (_, [_], _, _, _)
        refine ar_if1f rfl (bi_e0f c101) ?_
        refine ar_ldI rfl rfl ?_
        refine ar_push rfl ?_
        refine ar_push rfl ?_
        refine ar_callv rfl rfl (Nat.le_of_ble_eq_true rfl) (Nat.le_of_ble_eq_true rfl) rfl (sp_in _ _ _ _ _) ?_
        refine ar_eqB rfl (fun c102 => ?_) (fun c102 => ?_)
        · refine ar_push rfl ?_
          refine ar_ret rfl rfl ?_
          exact ⟨rfl, hJ _ _ _⟩
        · refine ar_ldI rfl rfl ?_
          refine ar_push rfl ?_
          refine ar_if2 rfl (fun c103 => ?_) (fun c103 => ?_)
          · refine ar_ldI rfl rfl ?_
            refine ar_push rfl ?_
            refine ar_push rfl ?_
            refine ar_callv rfl rfl (Nat.le_of_ble_eq_true rfl) (Nat.le_of_ble_eq_true rfl) rfl (sp_in _ _ _ _ _) ?_
            refine ar_neB rfl (fun c104 => ?_) (fun c104 => ?_)
            · refine ar_ldI rfl rfl ?_
              refine ar_inl (mc := 0) (ms := 0) rfl rfl (Nat.le_of_ble_eq_true rfl) (Nat.le_of_ble_eq_true rfl) (by omega) (by omega) ?_
              refine ac_ink [some (.inl _)] mt_235 (Nat.le_of_ble_eq_true rfl) rfl ?_
              refine ar_ldI rfl rfl ?_
              refine ar_push rfl ?_
              refine ar_if2 rfl (fun c105 => ?_) (fun c105 => ?_)
              · refine ar_push rfl ?_
                refine ar_go rfl ?_
                refine ar_ret rfl rfl ?_
                show aRun _ (aCall Mt _) _ 87 (_, [_], _, _, _)
                refine ar_if1f rfl (by decide) ?_
                refine ar_ldI rfl rfl ?_
                refine ar_push rfl ?_
                refine ar_push rfl ?_
                refine ar_callv rfl rfl (Nat.le_of_ble_eq_true rfl) (Nat.le_of_ble_eq_true rfl) rfl (sp_in _ _ _ _ _) ?_
                refine ar_eqB rfl (fun c106 => ?_) (fun c106 => ?_)
                · refine ar_push rfl ?_
                  refine ar_ret rfl rfl ?_
                  exact ⟨rfl, hJ _ _ _⟩
                · refine ar_ldI rfl rfl ?_
                  refine ar_inl (mc := 0) (ms := 0) rfl rfl (Nat.le_of_ble_eq_true rfl) (Nat.le_of_ble_eq_true rfl) (by omega) (by omega) ?_
                  refine ac_ink [some (.inl _)] mt_236 (Nat.le_of_ble_eq_true rfl) rfl ?_
                  refine ar_ldI rfl rfl ?_
                  refine ar_push rfl ?_
                  refine ar_if2 rfl (fun c107 => ?_) (fun c107 => ?_)
                  · refine ar_push rfl ?_
                    refine ar_go rfl ?_
                    refine ar_ret rfl rfl ?_
                    show aRun _ (aCall Mt _) _ 105 (_, [_], _, _, _)
                    refine ar_if1f rfl (by decide) ?_
                    refine ar_ldI rfl rfl ?_
                    refine ar_push rfl ?_
                    refine ar_push rfl ?_
                    refine ar_callv rfl rfl (Nat.le_of_ble_eq_true rfl) (Nat.le_of_ble_eq_true rfl) rfl (sp_in _ _ _ _ _) ?_
                    refine ar_eqB rfl (fun c108 => ?_) (fun c108 => ?_)
                    · refine ar_push rfl ?_
                      refine ar_ret rfl rfl ?_
                      exact ⟨rfl, hJ _ _ _⟩
                    · refine ar_ldI rfl rfl ?_
                      refine ar_push rfl ?_
                      refine ar_if2 rfl (fun c109 => ?_) (fun c109 => ?_)
                      · refine ar_ldA rfl rfl ?_
                        refine ar_get rfl (hr.at 69 (by decide) (by decide) rfl) rfl ?_
                        refine ar_push rfl ?_
                        refine ar_if2t rfl (by decide) ?_
                        refine ar_ldA rfl rfl ?_
                        refine ar_ldI rfl rfl ?_
                        refine ar_ldI rfl rfl ?_
                        refine ar_ldA rfl rfl ?_
                        refine ar_get rfl (hr.at 69 (by decide) (by decide) rfl) rfl ?_
                        refine ar_ldA rfl rfl ?_
                        refine ar_get rfl (hr.at 69 (by decide) (by decide) rfl) rfl ?_
                        refine ar_ldA rfl rfl ?_
                        refine ar_get rfl (hr.at 69 (by decide) (by decide) rfl) rfl ?_
                        refine ar_ldI rfl rfl ?_
                        refine ar_push rfl ?_
                        refine ar_if2f rfl (eq_t c103) ?_
                        refine ar_push rfl ?_
                        refine ar_go rfl ?_
                        refine ar_ldI rfl rfl ?_
                        refine ar_ldI rfl rfl ?_
                        refine ar_inl (mc := 0) (ms := 0) rfl (rcv_of (hr.at 69 (by decide) (by decide) rfl)) (Nat.le_of_ble_eq_true rfl) (Nat.le_of_ble_eq_true rfl) (by omega) (by omega) ?_
                        refine ac_ink [some (.inr (.inr (some 69))), some (.inl _), some (.inl _), some (.inl 0), some (.inl 0), some (.inl 0), some (.inl (-1)), some (.inl _), some (.inl _)] mt_238 (Nat.le_of_ble_eq_true rfl) rfl ?_
                        refine ar_ldA rfl rfl ?_
                        refine ar_get rfl (hr.at 69 (by decide) (by decide) rfl) rfl ?_
                        refine ar_ldA rfl rfl ?_
                        refine ar_get rfl (hr.at 69 (by decide) (by decide) rfl) rfl ?_
                        refine ar_ldI rfl rfl ?_
                        refine ar_ast rfl (hr.at 96 (by decide) (by decide) rfl) (by decide) (Nat.le_of_ble_eq_true rfl) ?_
                        refine ar_ldA rfl rfl ?_
                        refine ar_get rfl (hs_ne (by decide) (hr.at 69 (by decide) (by decide) rfl)) rfl ?_
                        refine ar_ldA rfl rfl ?_
                        refine ar_get rfl (hs_ne (by decide) (hr.at 69 (by decide) (by decide) rfl)) rfl ?_
                        refine ar_ldI rfl rfl ?_
                        refine ar_ast rfl (hs_ne (by decide) (hr.at 97 (by decide) (by decide) rfl)) (by decide) (Nat.le_of_ble_eq_true rfl) ?_
                        refine ar_ldA rfl rfl ?_
                        refine ar_get rfl (hs_ne (by decide) (hs_ne (by decide) (hr.at 69 (by decide) (by decide) rfl))) rfl ?_
                        refine ar_ldA rfl rfl ?_
                        refine ar_get rfl (hs_ne (by decide) (hs_ne (by decide) (hr.at 69 (by decide) (by decide) rfl))) rfl ?_
                        refine ar_ldI rfl rfl ?_
                        refine ar_ast rfl (hs_ne (by decide) (hs_ne (by decide) (hr.at 98 (by decide) (by decide) rfl))) (by decide) (Nat.le_of_ble_eq_true rfl) ?_
                        refine ar_ldA rfl rfl ?_
                        refine ar_get rfl (hs_ne (by decide) (hs_ne (by decide) (hs_ne (by decide) (hr.at 69 (by decide) (by decide) rfl)))) rfl ?_
                        refine ar_ldA rfl rfl ?_
                        refine ar_get rfl (hs_ne (by decide) (hs_ne (by decide) (hs_ne (by decide) (hr.at 69 (by decide) (by decide) rfl)))) rfl ?_
                        refine ar_ldI rfl rfl ?_
                        refine ar_ast rfl (hs_ne (by decide) (hs_ne (by decide) (hs_ne (by decide) (hr.at 99 (by decide) (by decide) rfl)))) (by decide) (Nat.le_of_ble_eq_true rfl) ?_
                        refine ar_ldA rfl rfl ?_
                        refine ar_get rfl (hs_ne (by decide) (hs_ne (by decide) (hs_ne (by decide) (hs_ne (by decide) (hr.at 69 (by decide) (by decide) rfl))))) rfl ?_
                        refine ar_ldA rfl rfl ?_
                        refine ar_get rfl (hs_ne (by decide) (hs_ne (by decide) (hs_ne (by decide) (hs_ne (by decide) (hr.at 69 (by decide) (by decide) rfl))))) rfl ?_
                        refine ar_ldI rfl rfl ?_
                        refine ar_ast rfl (hs_ne (by decide) (hs_ne (by decide) (hs_ne (by decide) (hs_ne (by decide) (hr.at 100 (by decide) (by decide) rfl))))) (by decide) (Nat.le_of_ble_eq_true rfl) ?_
                        refine ar_ldA rfl rfl ?_
                        refine ar_get rfl (hs_ne (by decide) (hs_ne (by decide) (hs_ne (by decide) (hs_ne (by decide) (hs_ne (by decide) (hr.at 69 (by decide) (by decide) rfl)))))) rfl ?_
                        refine ar_ldA rfl rfl ?_
                        refine ar_get rfl (hs_ne (by decide) (hs_ne (by decide) (hs_ne (by decide) (hs_ne (by decide) (hs_ne (by decide) (hr.at 69 (by decide) (by decide) rfl)))))) rfl ?_
                        refine ar_ldI rfl rfl ?_
                        refine ar_ast rfl (hs_ne (by decide) (hs_ne (by decide) (hs_ne (by decide) (hs_ne (by decide) (hs_ne (by decide) (hr.at 101 (by decide) (by decide) rfl)))))) (by decide) (Nat.le_of_ble_eq_true rfl) ?_
                        refine ar_ldA rfl rfl ?_
                        refine ar_get rfl (hs_ne (by decide) (hs_ne (by decide) (hs_ne (by decide) (hs_ne (by decide) (hs_ne (by decide) (hs_ne (by decide) (hr.at 69 (by decide) (by decide) rfl))))))) rfl ?_
                        refine ar_ldA rfl rfl ?_
                        refine ar_get rfl (hs_ne (by decide) (hs_ne (by decide) (hs_ne (by decide) (hs_ne (by decide) (hs_ne (by decide) (hs_ne (by decide) (hr.at 69 (by decide) (by decide) rfl))))))) rfl ?_
                        refine ar_ldI rfl rfl ?_
                        refine ar_ast rfl (hs_ne (by decide) (hs_ne (by decide) (hs_ne (by decide) (hs_ne (by decide) (hs_ne (by decide) (hs_ne (by decide) (hr.at 102 (by decide) (by decide) rfl))))))) (by decide) (Nat.le_of_ble_eq_true rfl) ?_
                        refine ar_ldA rfl rfl ?_
                        refine ar_get rfl (hs_ne (by decide) (hs_ne (by decide) (hs_ne (by decide) (hs_ne (by decide) (hs_ne (by decide) (hs_ne (by decide) (hs_ne (by decide) (hr.at 69 (by decide) (by decide) rfl)))))))) rfl ?_
                        refine ar_ldA rfl rfl ?_
                        refine ar_get rfl (hs_ne (by decide) (hs_ne (by decide) (hs_ne (by decide) (hs_ne (by decide) (hs_ne (by decide) (hs_ne (by decide) (hs_ne (by decide) (hr.at 69 (by decide) (by decide) rfl)))))))) rfl ?_
                        refine ar_ldI rfl rfl ?_
                        refine ar_inl (mc := 0) (ms := 0) rfl rfl (Nat.le_of_ble_eq_true rfl) (Nat.le_of_ble_eq_true rfl) (by omega) (by omega) ?_
                        refine ac_ink [some (.inl _)] mt_235 (Nat.le_of_ble_eq_true rfl) rfl ?_
                        refine ar_ldI rfl rfl ?_
                        refine ar_push rfl ?_
                        refine ar_if2t rfl c105 ?_
                        refine ar_push rfl ?_
                        refine ar_go rfl ?_
                        refine ar_ret rfl rfl ?_
                        show aRun _ (aCall Mt _) _ 86 (_, [_, _, _], _, _, _)
                        refine ar_if1t rfl (by decide) ?_
                        refine ar_ldI rfl rfl ?_
                        refine ar_go rfl ?_
                        refine ar_ast rfl (hs_ne (by decide) (hs_ne (by decide) (hs_ne (by decide) (hs_ne (by decide) (hs_ne (by decide) (hs_ne (by decide) (hs_ne (by decide) (hr.at 103 (by decide) (by decide) rfl)))))))) (by decide) (Nat.le_of_ble_eq_true rfl) ?_
                        refine ar_ldA rfl rfl ?_
                        refine ar_dup rfl rfl ?_
                        refine ar_get rfl (hs_ne (by decide) (hs_ne (by decide) (hs_ne (by decide) (hs_ne (by decide) (hs_ne (by decide) (hs_ne (by decide) (hs_ne (by decide) (hs_ne (by decide) (hr.at 69 (by decide) (by decide) rfl))))))))) rfl ?_
                        refine ar_push rfl ?_
                        refine ar_bink (z := 1) rfl (by decide) ?_
                        refine ar_put rfl (hs_ne (by decide) (hs_ne (by decide) (hs_ne (by decide) (hs_ne (by decide) (hs_ne (by decide) (hs_ne (by decide) (hs_ne (by decide) (hs_ne (by decide) (hr.at 69 (by decide) (by decide) rfl))))))))) (Nat.le_of_ble_eq_true rfl) rfl ?_
                        refine ar_ldA rfl rfl ?_
                        refine ar_get rfl (hs_eq (hs_ne (by decide) (hs_ne (by decide) (hs_ne (by decide) (hs_ne (by decide) (hs_ne (by decide) (hs_ne (by decide) (hs_ne (by decide) (hs_ne (by decide) (hr.at 69 (by decide) (by decide) rfl)))))))))) rfl ?_
                        refine ar_push rfl ?_
                        refine ar_bink (z := 0) rfl (by decide) ?_
                        refine ar_ret rfl rfl ?_
                        show aRun _ (aCall Mt _) _ 181 (_, [_], _, _, _)
                        refine ar_ret rfl rfl ?_
                        exact ⟨by exfalso; have z0 := (lt_no h0); have z1 := (lt_no h8); have z2 := (wi_to c101); have z3 := (wi_to c102); have z4 := (eq_to c103); have z5 := (wi_to c104); have z6 := (eq_to c105); have z7 := (wi_to c106); have z8 := (eq_to c107); have z9 := (wi_to c108); have z10 := (eq_no (ne_t c109)); have z11 := (kd_nn h0); have z12 := (rg_nn h0); have y0 : ((0) : Int32).toInt = 0 := (by decide); have y1 : ((1) : Int32).toInt = 1 := (by decide); have y2 : ((2) : Int32).toInt = 2 := (by decide); have y3 : ((3) : Int32).toInt = 3 := (by decide); have y4 : ((7) : Int32).toInt = 7 := (by decide); have y5 : ((8) : Int32).toInt = 8 := (by decide); have y6 : ((23) : Int32).toInt = 23 := (by decide); have y7 : ((99) : Int32).toInt = 99 := (by decide); have y8 : ((400) : Int32).toInt = 400 := (by decide); omega, hJ _ _ _⟩
                      · refine ar_ldA rfl rfl ?_
                        refine ar_ldI rfl rfl ?_
                        refine ar_inl (mc := 0) (ms := 0) rfl (rcv_of (hr.at 69 (by decide) (by decide) rfl)) (Nat.le_of_ble_eq_true rfl) (Nat.le_of_ble_eq_true rfl) (by omega) (by omega) ?_
                        refine ac_ink [some (.inr (.inr (some 69))), some (.inl _)] mt_233 (Nat.le_of_ble_eq_true rfl) rfl ?_
                        refine ar_ldI rfl rfl ?_
                        refine ar_push rfl ?_
                        refine ar_ldA rfl rfl ?_
                        refine ar_get rfl (hr.at 69 (by decide) (by decide) rfl) rfl ?_
                        refine ar_push rfl ?_
                        refine ar_bink (z := (-1)) rfl (by decide) ?_
                        refine ar_callv rfl rfl (Nat.le_of_ble_eq_true rfl) (Nat.le_of_ble_eq_true rfl) rfl (sp_in _ _ _ _ _) ?_
                        refine ar_ret rfl (bi_ret _) ?_
                        show aRun _ (aCall Mt _) _ 128 (_, [_], _, _, _)
                        refine ar_if1f rfl (bi_n0f (wi_n1 _)) ?_
                        refine ar_push rfl ?_
                        refine ar_ret rfl rfl ?_
                        exact ⟨rfl, hJ _ _ _⟩
                  · refine ar_ldI rfl rfl ?_
                    refine ar_push rfl ?_
                    refine ar_if2 rfl (fun c110 => ?_) (fun c110 => ?_)
                    · refine ar_push rfl ?_
                      refine ar_ret rfl rfl ?_
                      show aRun _ (aCall Mt _) _ 105 (_, [_], _, _, _)
                      refine ar_if1t rfl (by decide) ?_
                      refine ar_ldI rfl rfl ?_
                      refine ar_push rfl ?_
                      refine ar_if2 rfl (fun c111 => ?_) (fun c111 => ?_)
                      · refine ar_ldA rfl rfl ?_
                        refine ar_get rfl (hr.at 69 (by decide) (by decide) rfl) rfl ?_
                        refine ar_push rfl ?_
                        refine ar_if2t rfl (by decide) ?_
                        refine ar_ldA rfl rfl ?_
                        refine ar_ldI rfl rfl ?_
                        refine ar_ldI rfl rfl ?_
                        refine ar_ldA rfl rfl ?_
                        refine ar_get rfl (hr.at 69 (by decide) (by decide) rfl) rfl ?_
                        refine ar_ldA rfl rfl ?_
                        refine ar_get rfl (hr.at 69 (by decide) (by decide) rfl) rfl ?_
                        refine ar_ldA rfl rfl ?_
                        refine ar_get rfl (hr.at 69 (by decide) (by decide) rfl) rfl ?_
                        refine ar_ldI rfl rfl ?_
                        refine ar_push rfl ?_
                        refine ar_if2f rfl (eq_t c103) ?_
                        refine ar_push rfl ?_
                        refine ar_go rfl ?_
                        refine ar_ldI rfl rfl ?_
                        refine ar_ldI rfl rfl ?_
                        refine ar_inl (mc := 0) (ms := 0) rfl (rcv_of (hr.at 69 (by decide) (by decide) rfl)) (Nat.le_of_ble_eq_true rfl) (Nat.le_of_ble_eq_true rfl) (by omega) (by omega) ?_
                        refine ac_ink [some (.inr (.inr (some 69))), some (.inl _), some (.inl _), some (.inl 0), some (.inl 0), some (.inl 0), some (.inl (-1)), some (.inl _), some (.inl _)] mt_238 (Nat.le_of_ble_eq_true rfl) rfl ?_
                        refine ar_ldA rfl rfl ?_
                        refine ar_get rfl (hr.at 69 (by decide) (by decide) rfl) rfl ?_
                        refine ar_ldA rfl rfl ?_
                        refine ar_get rfl (hr.at 69 (by decide) (by decide) rfl) rfl ?_
                        refine ar_ldI rfl rfl ?_
                        refine ar_ast rfl (hr.at 96 (by decide) (by decide) rfl) (by decide) (Nat.le_of_ble_eq_true rfl) ?_
                        refine ar_ldA rfl rfl ?_
                        refine ar_get rfl (hs_ne (by decide) (hr.at 69 (by decide) (by decide) rfl)) rfl ?_
                        refine ar_ldA rfl rfl ?_
                        refine ar_get rfl (hs_ne (by decide) (hr.at 69 (by decide) (by decide) rfl)) rfl ?_
                        refine ar_ldI rfl rfl ?_
                        refine ar_ast rfl (hs_ne (by decide) (hr.at 97 (by decide) (by decide) rfl)) (by decide) (Nat.le_of_ble_eq_true rfl) ?_
                        refine ar_ldA rfl rfl ?_
                        refine ar_get rfl (hs_ne (by decide) (hs_ne (by decide) (hr.at 69 (by decide) (by decide) rfl))) rfl ?_
                        refine ar_ldA rfl rfl ?_
                        refine ar_get rfl (hs_ne (by decide) (hs_ne (by decide) (hr.at 69 (by decide) (by decide) rfl))) rfl ?_
                        refine ar_ldI rfl rfl ?_
                        refine ar_ast rfl (hs_ne (by decide) (hs_ne (by decide) (hr.at 98 (by decide) (by decide) rfl))) (by decide) (Nat.le_of_ble_eq_true rfl) ?_
                        refine ar_ldA rfl rfl ?_
                        refine ar_get rfl (hs_ne (by decide) (hs_ne (by decide) (hs_ne (by decide) (hr.at 69 (by decide) (by decide) rfl)))) rfl ?_
                        refine ar_ldA rfl rfl ?_
                        refine ar_get rfl (hs_ne (by decide) (hs_ne (by decide) (hs_ne (by decide) (hr.at 69 (by decide) (by decide) rfl)))) rfl ?_
                        refine ar_ldI rfl rfl ?_
                        refine ar_ast rfl (hs_ne (by decide) (hs_ne (by decide) (hs_ne (by decide) (hr.at 99 (by decide) (by decide) rfl)))) (by decide) (Nat.le_of_ble_eq_true rfl) ?_
                        refine ar_ldA rfl rfl ?_
                        refine ar_get rfl (hs_ne (by decide) (hs_ne (by decide) (hs_ne (by decide) (hs_ne (by decide) (hr.at 69 (by decide) (by decide) rfl))))) rfl ?_
                        refine ar_ldA rfl rfl ?_
                        refine ar_get rfl (hs_ne (by decide) (hs_ne (by decide) (hs_ne (by decide) (hs_ne (by decide) (hr.at 69 (by decide) (by decide) rfl))))) rfl ?_
                        refine ar_ldI rfl rfl ?_
                        refine ar_ast rfl (hs_ne (by decide) (hs_ne (by decide) (hs_ne (by decide) (hs_ne (by decide) (hr.at 100 (by decide) (by decide) rfl))))) (by decide) (Nat.le_of_ble_eq_true rfl) ?_
                        refine ar_ldA rfl rfl ?_
                        refine ar_get rfl (hs_ne (by decide) (hs_ne (by decide) (hs_ne (by decide) (hs_ne (by decide) (hs_ne (by decide) (hr.at 69 (by decide) (by decide) rfl)))))) rfl ?_
                        refine ar_ldA rfl rfl ?_
                        refine ar_get rfl (hs_ne (by decide) (hs_ne (by decide) (hs_ne (by decide) (hs_ne (by decide) (hs_ne (by decide) (hr.at 69 (by decide) (by decide) rfl)))))) rfl ?_
                        refine ar_ldI rfl rfl ?_
                        refine ar_ast rfl (hs_ne (by decide) (hs_ne (by decide) (hs_ne (by decide) (hs_ne (by decide) (hs_ne (by decide) (hr.at 101 (by decide) (by decide) rfl)))))) (by decide) (Nat.le_of_ble_eq_true rfl) ?_
                        refine ar_ldA rfl rfl ?_
                        refine ar_get rfl (hs_ne (by decide) (hs_ne (by decide) (hs_ne (by decide) (hs_ne (by decide) (hs_ne (by decide) (hs_ne (by decide) (hr.at 69 (by decide) (by decide) rfl))))))) rfl ?_
                        refine ar_ldA rfl rfl ?_
                        refine ar_get rfl (hs_ne (by decide) (hs_ne (by decide) (hs_ne (by decide) (hs_ne (by decide) (hs_ne (by decide) (hs_ne (by decide) (hr.at 69 (by decide) (by decide) rfl))))))) rfl ?_
                        refine ar_ldI rfl rfl ?_
                        refine ar_ast rfl (hs_ne (by decide) (hs_ne (by decide) (hs_ne (by decide) (hs_ne (by decide) (hs_ne (by decide) (hs_ne (by decide) (hr.at 102 (by decide) (by decide) rfl))))))) (by decide) (Nat.le_of_ble_eq_true rfl) ?_
                        refine ar_ldA rfl rfl ?_
                        refine ar_get rfl (hs_ne (by decide) (hs_ne (by decide) (hs_ne (by decide) (hs_ne (by decide) (hs_ne (by decide) (hs_ne (by decide) (hs_ne (by decide) (hr.at 69 (by decide) (by decide) rfl)))))))) rfl ?_
                        refine ar_ldA rfl rfl ?_
                        refine ar_get rfl (hs_ne (by decide) (hs_ne (by decide) (hs_ne (by decide) (hs_ne (by decide) (hs_ne (by decide) (hs_ne (by decide) (hs_ne (by decide) (hr.at 69 (by decide) (by decide) rfl)))))))) rfl ?_
                        refine ar_ldI rfl rfl ?_
                        refine ar_inl (mc := 0) (ms := 0) rfl rfl (Nat.le_of_ble_eq_true rfl) (Nat.le_of_ble_eq_true rfl) (by omega) (by omega) ?_
                        refine ac_ink [some (.inl _)] mt_235 (Nat.le_of_ble_eq_true rfl) rfl ?_
                        refine ar_ldI rfl rfl ?_
                        refine ar_push rfl ?_
                        refine ar_if2t rfl c105 ?_
                        refine ar_push rfl ?_
                        refine ar_go rfl ?_
                        refine ar_ret rfl rfl ?_
                        show aRun _ (aCall Mt _) _ 86 (_, [_, _, _], _, _, _)
                        refine ar_if1t rfl (by decide) ?_
                        refine ar_ldI rfl rfl ?_
                        refine ar_go rfl ?_
                        refine ar_ast rfl (hs_ne (by decide) (hs_ne (by decide) (hs_ne (by decide) (hs_ne (by decide) (hs_ne (by decide) (hs_ne (by decide) (hs_ne (by decide) (hr.at 103 (by decide) (by decide) rfl)))))))) (by decide) (Nat.le_of_ble_eq_true rfl) ?_
                        refine ar_ldA rfl rfl ?_
                        refine ar_dup rfl rfl ?_
                        refine ar_get rfl (hs_ne (by decide) (hs_ne (by decide) (hs_ne (by decide) (hs_ne (by decide) (hs_ne (by decide) (hs_ne (by decide) (hs_ne (by decide) (hs_ne (by decide) (hr.at 69 (by decide) (by decide) rfl))))))))) rfl ?_
                        refine ar_push rfl ?_
                        refine ar_bink (z := 1) rfl (by decide) ?_
                        refine ar_put rfl (hs_ne (by decide) (hs_ne (by decide) (hs_ne (by decide) (hs_ne (by decide) (hs_ne (by decide) (hs_ne (by decide) (hs_ne (by decide) (hs_ne (by decide) (hr.at 69 (by decide) (by decide) rfl))))))))) (Nat.le_of_ble_eq_true rfl) rfl ?_
                        refine ar_ldA rfl rfl ?_
                        refine ar_get rfl (hs_eq (hs_ne (by decide) (hs_ne (by decide) (hs_ne (by decide) (hs_ne (by decide) (hs_ne (by decide) (hs_ne (by decide) (hs_ne (by decide) (hs_ne (by decide) (hr.at 69 (by decide) (by decide) rfl)))))))))) rfl ?_
                        refine ar_push rfl ?_
                        refine ar_bink (z := 0) rfl (by decide) ?_
                        refine ar_ret rfl rfl ?_
                        show aRun _ (aCall Mt _) _ 181 (_, [_], _, _, _)
                        refine ar_ret rfl rfl ?_
                        exact ⟨by exfalso; have z0 := (lt_no h0); have z1 := (lt_no h8); have z2 := (wi_to c101); have z3 := (wi_to c102); have z4 := (eq_to c103); have z5 := (wi_to c104); have z6 := (eq_to c105); have z7 := (wi_to c106); have z8 := (eq_no c107); have z9 := (eq_no (ne_t c110)); have z10 := (eq_no (ne_t c111)); have z11 := (kd_nn h0); have z12 := (rg_nn h0); have y0 : ((0) : Int32).toInt = 0 := (by decide); have y1 : ((1) : Int32).toInt = 1 := (by decide); have y2 : ((2) : Int32).toInt = 2 := (by decide); have y3 : ((3) : Int32).toInt = 3 := (by decide); have y4 : ((7) : Int32).toInt = 7 := (by decide); have y5 : ((8) : Int32).toInt = 8 := (by decide); have y6 : ((23) : Int32).toInt = 23 := (by decide); have y7 : ((99) : Int32).toInt = 99 := (by decide); have y8 : ((400) : Int32).toInt = 400 := (by decide); omega, hJ _ _ _⟩
                      · refine ar_ldA rfl rfl ?_
                        refine ar_ldI rfl rfl ?_
                        refine ar_inl (mc := 0) (ms := 0) rfl (rcv_of (hr.at 69 (by decide) (by decide) rfl)) (Nat.le_of_ble_eq_true rfl) (Nat.le_of_ble_eq_true rfl) (by omega) (by omega) ?_
                        refine ac_ink [some (.inr (.inr (some 69))), some (.inl _)] mt_233 (Nat.le_of_ble_eq_true rfl) rfl ?_
                        refine ar_ldI rfl rfl ?_
                        refine ar_push rfl ?_
                        refine ar_ldA rfl rfl ?_
                        refine ar_get rfl (hr.at 69 (by decide) (by decide) rfl) rfl ?_
                        refine ar_push rfl ?_
                        refine ar_bink (z := (-1)) rfl (by decide) ?_
                        refine ar_callv rfl rfl (Nat.le_of_ble_eq_true rfl) (Nat.le_of_ble_eq_true rfl) rfl (sp_in _ _ _ _ _) ?_
                        refine ar_ret rfl (bi_ret _) ?_
                        show aRun _ (aCall Mt _) _ 128 (_, [_], _, _, _)
                        refine ar_if1f rfl (bi_n0f (wi_n1 _)) ?_
                        refine ar_push rfl ?_
                        refine ar_ret rfl rfl ?_
                        exact ⟨rfl, hJ _ _ _⟩
                    · refine ar_push rfl ?_
                      refine ar_go rfl ?_
                      refine ar_ret rfl rfl ?_
                      show aRun _ (aCall Mt _) _ 105 (_, [_], _, _, _)
                      refine ar_if1f rfl (by decide) ?_
                      refine ar_ldI rfl rfl ?_
                      refine ar_push rfl ?_
                      refine ar_push rfl ?_
                      refine ar_callv rfl rfl (Nat.le_of_ble_eq_true rfl) (Nat.le_of_ble_eq_true rfl) rfl (sp_in _ _ _ _ _) ?_
                      refine ar_eqB rfl (fun c112 => ?_) (fun c112 => ?_)
                      · refine ar_push rfl ?_
                        refine ar_ret rfl rfl ?_
                        exact ⟨rfl, hJ _ _ _⟩
                      · refine ar_ldI rfl rfl ?_
                        refine ar_push rfl ?_
                        refine ar_if2 rfl (fun c113 => ?_) (fun c113 => ?_)
                        · refine ar_ldA rfl rfl ?_
                          refine ar_get rfl (hr.at 69 (by decide) (by decide) rfl) rfl ?_
                          refine ar_push rfl ?_
                          refine ar_if2t rfl (by decide) ?_
                          refine ar_ldA rfl rfl ?_
                          refine ar_ldI rfl rfl ?_
                          refine ar_ldI rfl rfl ?_
                          refine ar_ldA rfl rfl ?_
                          refine ar_get rfl (hr.at 69 (by decide) (by decide) rfl) rfl ?_
                          refine ar_ldA rfl rfl ?_
                          refine ar_get rfl (hr.at 69 (by decide) (by decide) rfl) rfl ?_
                          refine ar_ldA rfl rfl ?_
                          refine ar_get rfl (hr.at 69 (by decide) (by decide) rfl) rfl ?_
                          refine ar_ldI rfl rfl ?_
                          refine ar_push rfl ?_
                          refine ar_if2f rfl (eq_t c103) ?_
                          refine ar_push rfl ?_
                          refine ar_go rfl ?_
                          refine ar_ldI rfl rfl ?_
                          refine ar_ldI rfl rfl ?_
                          refine ar_inl (mc := 0) (ms := 0) rfl (rcv_of (hr.at 69 (by decide) (by decide) rfl)) (Nat.le_of_ble_eq_true rfl) (Nat.le_of_ble_eq_true rfl) (by omega) (by omega) ?_
                          refine ac_ink [some (.inr (.inr (some 69))), some (.inl _), some (.inl _), some (.inl 0), some (.inl 0), some (.inl 0), some (.inl (-1)), some (.inl _), some (.inl _)] mt_238 (Nat.le_of_ble_eq_true rfl) rfl ?_
                          refine ar_ldA rfl rfl ?_
                          refine ar_get rfl (hr.at 69 (by decide) (by decide) rfl) rfl ?_
                          refine ar_ldA rfl rfl ?_
                          refine ar_get rfl (hr.at 69 (by decide) (by decide) rfl) rfl ?_
                          refine ar_ldI rfl rfl ?_
                          refine ar_ast rfl (hr.at 96 (by decide) (by decide) rfl) (by decide) (Nat.le_of_ble_eq_true rfl) ?_
                          refine ar_ldA rfl rfl ?_
                          refine ar_get rfl (hs_ne (by decide) (hr.at 69 (by decide) (by decide) rfl)) rfl ?_
                          refine ar_ldA rfl rfl ?_
                          refine ar_get rfl (hs_ne (by decide) (hr.at 69 (by decide) (by decide) rfl)) rfl ?_
                          refine ar_ldI rfl rfl ?_
                          refine ar_ast rfl (hs_ne (by decide) (hr.at 97 (by decide) (by decide) rfl)) (by decide) (Nat.le_of_ble_eq_true rfl) ?_
                          refine ar_ldA rfl rfl ?_
                          refine ar_get rfl (hs_ne (by decide) (hs_ne (by decide) (hr.at 69 (by decide) (by decide) rfl))) rfl ?_
                          refine ar_ldA rfl rfl ?_
                          refine ar_get rfl (hs_ne (by decide) (hs_ne (by decide) (hr.at 69 (by decide) (by decide) rfl))) rfl ?_
                          refine ar_ldI rfl rfl ?_
                          refine ar_ast rfl (hs_ne (by decide) (hs_ne (by decide) (hr.at 98 (by decide) (by decide) rfl))) (by decide) (Nat.le_of_ble_eq_true rfl) ?_
                          refine ar_ldA rfl rfl ?_
                          refine ar_get rfl (hs_ne (by decide) (hs_ne (by decide) (hs_ne (by decide) (hr.at 69 (by decide) (by decide) rfl)))) rfl ?_
                          refine ar_ldA rfl rfl ?_
                          refine ar_get rfl (hs_ne (by decide) (hs_ne (by decide) (hs_ne (by decide) (hr.at 69 (by decide) (by decide) rfl)))) rfl ?_
                          refine ar_ldI rfl rfl ?_
                          refine ar_ast rfl (hs_ne (by decide) (hs_ne (by decide) (hs_ne (by decide) (hr.at 99 (by decide) (by decide) rfl)))) (by decide) (Nat.le_of_ble_eq_true rfl) ?_
                          refine ar_ldA rfl rfl ?_
                          refine ar_get rfl (hs_ne (by decide) (hs_ne (by decide) (hs_ne (by decide) (hs_ne (by decide) (hr.at 69 (by decide) (by decide) rfl))))) rfl ?_
                          refine ar_ldA rfl rfl ?_
                          refine ar_get rfl (hs_ne (by decide) (hs_ne (by decide) (hs_ne (by decide) (hs_ne (by decide) (hr.at 69 (by decide) (by decide) rfl))))) rfl ?_
                          refine ar_ldI rfl rfl ?_
                          refine ar_ast rfl (hs_ne (by decide) (hs_ne (by decide) (hs_ne (by decide) (hs_ne (by decide) (hr.at 100 (by decide) (by decide) rfl))))) (by decide) (Nat.le_of_ble_eq_true rfl) ?_
                          refine ar_ldA rfl rfl ?_
                          refine ar_get rfl (hs_ne (by decide) (hs_ne (by decide) (hs_ne (by decide) (hs_ne (by decide) (hs_ne (by decide) (hr.at 69 (by decide) (by decide) rfl)))))) rfl ?_
                          refine ar_ldA rfl rfl ?_
                          refine ar_get rfl (hs_ne (by decide) (hs_ne (by decide) (hs_ne (by decide) (hs_ne (by decide) (hs_ne (by decide) (hr.at 69 (by decide) (by decide) rfl)))))) rfl ?_
                          refine ar_ldI rfl rfl ?_
                          refine ar_ast rfl (hs_ne (by decide) (hs_ne (by decide) (hs_ne (by decide) (hs_ne (by decide) (hs_ne (by decide) (hr.at 101 (by decide) (by decide) rfl)))))) (by decide) (Nat.le_of_ble_eq_true rfl) ?_
                          refine ar_ldA rfl rfl ?_
                          refine ar_get rfl (hs_ne (by decide) (hs_ne (by decide) (hs_ne (by decide) (hs_ne (by decide) (hs_ne (by decide) (hs_ne (by decide) (hr.at 69 (by decide) (by decide) rfl))))))) rfl ?_
                          refine ar_ldA rfl rfl ?_
                          refine ar_get rfl (hs_ne (by decide) (hs_ne (by decide) (hs_ne (by decide) (hs_ne (by decide) (hs_ne (by decide) (hs_ne (by decide) (hr.at 69 (by decide) (by decide) rfl))))))) rfl ?_
                          refine ar_ldI rfl rfl ?_
                          refine ar_ast rfl (hs_ne (by decide) (hs_ne (by decide) (hs_ne (by decide) (hs_ne (by decide) (hs_ne (by decide) (hs_ne (by decide) (hr.at 102 (by decide) (by decide) rfl))))))) (by decide) (Nat.le_of_ble_eq_true rfl) ?_
                          refine ar_ldA rfl rfl ?_
                          refine ar_get rfl (hs_ne (by decide) (hs_ne (by decide) (hs_ne (by decide) (hs_ne (by decide) (hs_ne (by decide) (hs_ne (by decide) (hs_ne (by decide) (hr.at 69 (by decide) (by decide) rfl)))))))) rfl ?_
                          refine ar_ldA rfl rfl ?_
                          refine ar_get rfl (hs_ne (by decide) (hs_ne (by decide) (hs_ne (by decide) (hs_ne (by decide) (hs_ne (by decide) (hs_ne (by decide) (hs_ne (by decide) (hr.at 69 (by decide) (by decide) rfl)))))))) rfl ?_
                          refine ar_ldI rfl rfl ?_
                          refine ar_inl (mc := 0) (ms := 0) rfl rfl (Nat.le_of_ble_eq_true rfl) (Nat.le_of_ble_eq_true rfl) (by omega) (by omega) ?_
                          refine ac_ink [some (.inl _)] mt_235 (Nat.le_of_ble_eq_true rfl) rfl ?_
                          refine ar_ldI rfl rfl ?_
                          refine ar_push rfl ?_
                          refine ar_if2t rfl c105 ?_
                          refine ar_push rfl ?_
                          refine ar_go rfl ?_
                          refine ar_ret rfl rfl ?_
                          show aRun _ (aCall Mt _) _ 86 (_, [_, _, _], _, _, _)
                          refine ar_if1t rfl (by decide) ?_
                          refine ar_ldI rfl rfl ?_
                          refine ar_go rfl ?_
                          refine ar_ast rfl (hs_ne (by decide) (hs_ne (by decide) (hs_ne (by decide) (hs_ne (by decide) (hs_ne (by decide) (hs_ne (by decide) (hs_ne (by decide) (hr.at 103 (by decide) (by decide) rfl)))))))) (by decide) (Nat.le_of_ble_eq_true rfl) ?_
                          refine ar_ldA rfl rfl ?_
                          refine ar_dup rfl rfl ?_
                          refine ar_get rfl (hs_ne (by decide) (hs_ne (by decide) (hs_ne (by decide) (hs_ne (by decide) (hs_ne (by decide) (hs_ne (by decide) (hs_ne (by decide) (hs_ne (by decide) (hr.at 69 (by decide) (by decide) rfl))))))))) rfl ?_
                          refine ar_push rfl ?_
                          refine ar_bink (z := 1) rfl (by decide) ?_
                          refine ar_put rfl (hs_ne (by decide) (hs_ne (by decide) (hs_ne (by decide) (hs_ne (by decide) (hs_ne (by decide) (hs_ne (by decide) (hs_ne (by decide) (hs_ne (by decide) (hr.at 69 (by decide) (by decide) rfl))))))))) (Nat.le_of_ble_eq_true rfl) rfl ?_
                          refine ar_ldA rfl rfl ?_
                          refine ar_get rfl (hs_eq (hs_ne (by decide) (hs_ne (by decide) (hs_ne (by decide) (hs_ne (by decide) (hs_ne (by decide) (hs_ne (by decide) (hs_ne (by decide) (hs_ne (by decide) (hr.at 69 (by decide) (by decide) rfl)))))))))) rfl ?_
                          refine ar_push rfl ?_
                          refine ar_bink (z := 0) rfl (by decide) ?_
                          refine ar_ret rfl rfl ?_
                          show aRun _ (aCall Mt _) _ 181 (_, [_], _, _, _)
                          refine ar_ret rfl rfl ?_
                          exact ⟨by exfalso; have z0 := (lt_no h0); have z1 := (lt_no h8); have z2 := (wi_to c101); have z3 := (wi_to c102); have z4 := (eq_to c103); have z5 := (wi_to c104); have z6 := (eq_to c105); have z7 := (wi_to c106); have z8 := (eq_no c107); have z9 := (eq_to (ne_f c110)); have z10 := (wi_to c112); have z11 := (eq_no (ne_t c113)); have z12 := (kd_nn h0); have z13 := (rg_nn h0); have y0 : ((0) : Int32).toInt = 0 := (by decide); have y1 : ((1) : Int32).toInt = 1 := (by decide); have y2 : ((2) : Int32).toInt = 2 := (by decide); have y3 : ((3) : Int32).toInt = 3 := (by decide); have y4 : ((7) : Int32).toInt = 7 := (by decide); have y5 : ((8) : Int32).toInt = 8 := (by decide); have y6 : ((23) : Int32).toInt = 23 := (by decide); have y7 : ((99) : Int32).toInt = 99 := (by decide); have y8 : ((400) : Int32).toInt = 400 := (by decide); omega, hJ _ _ _⟩
                        · refine ar_ldA rfl rfl ?_
                          refine ar_ldI rfl rfl ?_
                          refine ar_inl (mc := 0) (ms := 0) rfl (rcv_of (hr.at 69 (by decide) (by decide) rfl)) (Nat.le_of_ble_eq_true rfl) (Nat.le_of_ble_eq_true rfl) (by omega) (by omega) ?_
                          refine ac_ink [some (.inr (.inr (some 69))), some (.inl _)] mt_233 (Nat.le_of_ble_eq_true rfl) rfl ?_
                          refine ar_ldI rfl rfl ?_
                          refine ar_push rfl ?_
                          refine ar_ldA rfl rfl ?_
                          refine ar_get rfl (hr.at 69 (by decide) (by decide) rfl) rfl ?_
                          refine ar_push rfl ?_
                          refine ar_bink (z := (-1)) rfl (by decide) ?_
                          refine ar_callv rfl rfl (Nat.le_of_ble_eq_true rfl) (Nat.le_of_ble_eq_true rfl) rfl (sp_in _ _ _ _ _) ?_
                          refine ar_ret rfl (bi_ret _) ?_
                          show aRun _ (aCall Mt _) _ 128 (_, [_], _, _, _)
                          refine ar_if1f rfl (bi_n0f (wi_n1 _)) ?_
                          refine ar_push rfl ?_
                          refine ar_ret rfl rfl ?_
                          exact ⟨rfl, hJ _ _ _⟩
              · refine ar_ldI rfl rfl ?_
                refine ar_push rfl ?_
                refine ar_if2 rfl (fun c114 => ?_) (fun c114 => ?_)
                · refine ar_push rfl ?_
                  refine ar_ret rfl rfl ?_
                  show aRun _ (aCall Mt _) _ 87 (_, [_], _, _, _)
                  refine ar_if1t rfl (by decide) ?_
                  refine ar_ldI rfl rfl ?_
                  refine ar_inl (mc := 0) (ms := 0) rfl rfl (Nat.le_of_ble_eq_true rfl) (Nat.le_of_ble_eq_true rfl) (by omega) (by omega) ?_
                  refine ac_ink [some (.inl _)] mt_236 (Nat.le_of_ble_eq_true rfl) rfl ?_
                  refine ar_ldI rfl rfl ?_
                  refine ar_push rfl ?_
                  refine ar_if2 rfl (fun c115 => ?_) (fun c115 => ?_)
                  · refine ar_push rfl ?_
                    refine ar_go rfl ?_
                    refine ar_ret rfl rfl ?_
                    show aRun _ (aCall Mt _) _ 105 (_, [_], _, _, _)
                    refine ar_if1f rfl (by decide) ?_
                    refine ar_ldI rfl rfl ?_
                    refine ar_push rfl ?_
                    refine ar_push rfl ?_
                    refine ar_callv rfl rfl (Nat.le_of_ble_eq_true rfl) (Nat.le_of_ble_eq_true rfl) rfl (sp_in _ _ _ _ _) ?_
                    refine ar_eqB rfl (fun c116 => ?_) (fun c116 => ?_)
                    · refine ar_push rfl ?_
                      refine ar_ret rfl rfl ?_
                      exact ⟨rfl, hJ _ _ _⟩
                    · refine ar_ldI rfl rfl ?_
                      refine ar_push rfl ?_
                      refine ar_if2 rfl (fun c117 => ?_) (fun c117 => ?_)
                      · refine ar_ldA rfl rfl ?_
                        refine ar_get rfl (hr.at 69 (by decide) (by decide) rfl) rfl ?_
                        refine ar_push rfl ?_
                        refine ar_if2t rfl (by decide) ?_
                        refine ar_ldA rfl rfl ?_
                        refine ar_ldI rfl rfl ?_
                        refine ar_ldI rfl rfl ?_
                        refine ar_ldA rfl rfl ?_
                        refine ar_get rfl (hr.at 69 (by decide) (by decide) rfl) rfl ?_
                        refine ar_ldA rfl rfl ?_
                        refine ar_get rfl (hr.at 69 (by decide) (by decide) rfl) rfl ?_
                        refine ar_ldA rfl rfl ?_
                        refine ar_get rfl (hr.at 69 (by decide) (by decide) rfl) rfl ?_
                        refine ar_ldI rfl rfl ?_
                        refine ar_push rfl ?_
                        refine ar_if2f rfl (eq_t c103) ?_
                        refine ar_push rfl ?_
                        refine ar_go rfl ?_
                        refine ar_ldI rfl rfl ?_
                        refine ar_ldI rfl rfl ?_
                        refine ar_inl (mc := 0) (ms := 0) rfl (rcv_of (hr.at 69 (by decide) (by decide) rfl)) (Nat.le_of_ble_eq_true rfl) (Nat.le_of_ble_eq_true rfl) (by omega) (by omega) ?_
                        refine ac_ink [some (.inr (.inr (some 69))), some (.inl _), some (.inl _), some (.inl 0), some (.inl 0), some (.inl 0), some (.inl (-1)), some (.inl _), some (.inl _)] mt_238 (Nat.le_of_ble_eq_true rfl) rfl ?_
                        refine ar_ldA rfl rfl ?_
                        refine ar_get rfl (hr.at 69 (by decide) (by decide) rfl) rfl ?_
                        refine ar_ldA rfl rfl ?_
                        refine ar_get rfl (hr.at 69 (by decide) (by decide) rfl) rfl ?_
                        refine ar_ldI rfl rfl ?_
                        refine ar_ast rfl (hr.at 96 (by decide) (by decide) rfl) (by decide) (Nat.le_of_ble_eq_true rfl) ?_
                        refine ar_ldA rfl rfl ?_
                        refine ar_get rfl (hs_ne (by decide) (hr.at 69 (by decide) (by decide) rfl)) rfl ?_
                        refine ar_ldA rfl rfl ?_
                        refine ar_get rfl (hs_ne (by decide) (hr.at 69 (by decide) (by decide) rfl)) rfl ?_
                        refine ar_ldI rfl rfl ?_
                        refine ar_ast rfl (hs_ne (by decide) (hr.at 97 (by decide) (by decide) rfl)) (by decide) (Nat.le_of_ble_eq_true rfl) ?_
                        refine ar_ldA rfl rfl ?_
                        refine ar_get rfl (hs_ne (by decide) (hs_ne (by decide) (hr.at 69 (by decide) (by decide) rfl))) rfl ?_
                        refine ar_ldA rfl rfl ?_
                        refine ar_get rfl (hs_ne (by decide) (hs_ne (by decide) (hr.at 69 (by decide) (by decide) rfl))) rfl ?_
                        refine ar_ldI rfl rfl ?_
                        refine ar_ast rfl (hs_ne (by decide) (hs_ne (by decide) (hr.at 98 (by decide) (by decide) rfl))) (by decide) (Nat.le_of_ble_eq_true rfl) ?_
                        refine ar_ldA rfl rfl ?_
                        refine ar_get rfl (hs_ne (by decide) (hs_ne (by decide) (hs_ne (by decide) (hr.at 69 (by decide) (by decide) rfl)))) rfl ?_
                        refine ar_ldA rfl rfl ?_
                        refine ar_get rfl (hs_ne (by decide) (hs_ne (by decide) (hs_ne (by decide) (hr.at 69 (by decide) (by decide) rfl)))) rfl ?_
                        refine ar_ldI rfl rfl ?_
                        refine ar_ast rfl (hs_ne (by decide) (hs_ne (by decide) (hs_ne (by decide) (hr.at 99 (by decide) (by decide) rfl)))) (by decide) (Nat.le_of_ble_eq_true rfl) ?_
                        refine ar_ldA rfl rfl ?_
                        refine ar_get rfl (hs_ne (by decide) (hs_ne (by decide) (hs_ne (by decide) (hs_ne (by decide) (hr.at 69 (by decide) (by decide) rfl))))) rfl ?_
                        refine ar_ldA rfl rfl ?_
                        refine ar_get rfl (hs_ne (by decide) (hs_ne (by decide) (hs_ne (by decide) (hs_ne (by decide) (hr.at 69 (by decide) (by decide) rfl))))) rfl ?_
                        refine ar_ldI rfl rfl ?_
                        refine ar_ast rfl (hs_ne (by decide) (hs_ne (by decide) (hs_ne (by decide) (hs_ne (by decide) (hr.at 100 (by decide) (by decide) rfl))))) (by decide) (Nat.le_of_ble_eq_true rfl) ?_
                        refine ar_ldA rfl rfl ?_
                        refine ar_get rfl (hs_ne (by decide) (hs_ne (by decide) (hs_ne (by decide) (hs_ne (by decide) (hs_ne (by decide) (hr.at 69 (by decide) (by decide) rfl)))))) rfl ?_
                        refine ar_ldA rfl rfl ?_
                        refine ar_get rfl (hs_ne (by decide) (hs_ne (by decide) (hs_ne (by decide) (hs_ne (by decide) (hs_ne (by decide) (hr.at 69 (by decide) (by decide) rfl)))))) rfl ?_
                        refine ar_ldI rfl rfl ?_
                        refine ar_ast rfl (hs_ne (by decide) (hs_ne (by decide) (hs_ne (by decide) (hs_ne (by decide) (hs_ne (by decide) (hr.at 101 (by decide) (by decide) rfl)))))) (by decide) (Nat.le_of_ble_eq_true rfl) ?_
                        refine ar_ldA rfl rfl ?_
                        refine ar_get rfl (hs_ne (by decide) (hs_ne (by decide) (hs_ne (by decide) (hs_ne (by decide) (hs_ne (by decide) (hs_ne (by decide) (hr.at 69 (by decide) (by decide) rfl))))))) rfl ?_
                        refine ar_ldA rfl rfl ?_
                        refine ar_get rfl (hs_ne (by decide) (hs_ne (by decide) (hs_ne (by decide) (hs_ne (by decide) (hs_ne (by decide) (hs_ne (by decide) (hr.at 69 (by decide) (by decide) rfl))))))) rfl ?_
                        refine ar_ldI rfl rfl ?_
                        refine ar_ast rfl (hs_ne (by decide) (hs_ne (by decide) (hs_ne (by decide) (hs_ne (by decide) (hs_ne (by decide) (hs_ne (by decide) (hr.at 102 (by decide) (by decide) rfl))))))) (by decide) (Nat.le_of_ble_eq_true rfl) ?_
                        refine ar_ldA rfl rfl ?_
                        refine ar_get rfl (hs_ne (by decide) (hs_ne (by decide) (hs_ne (by decide) (hs_ne (by decide) (hs_ne (by decide) (hs_ne (by decide) (hs_ne (by decide) (hr.at 69 (by decide) (by decide) rfl)))))))) rfl ?_
                        refine ar_ldA rfl rfl ?_
                        refine ar_get rfl (hs_ne (by decide) (hs_ne (by decide) (hs_ne (by decide) (hs_ne (by decide) (hs_ne (by decide) (hs_ne (by decide) (hs_ne (by decide) (hr.at 69 (by decide) (by decide) rfl)))))))) rfl ?_
                        refine ar_ldI rfl rfl ?_
                        refine ar_inl (mc := 0) (ms := 0) rfl rfl (Nat.le_of_ble_eq_true rfl) (Nat.le_of_ble_eq_true rfl) (by omega) (by omega) ?_
                        refine ac_ink [some (.inl _)] mt_235 (Nat.le_of_ble_eq_true rfl) rfl ?_
                        refine ar_ldI rfl rfl ?_
                        refine ar_push rfl ?_
                        refine ar_if2f rfl c105 ?_
                        refine ar_ldI rfl rfl ?_
                        refine ar_push rfl ?_
                        refine ar_if2t rfl (eq_f (ne_t c114)) ?_
                        refine ar_push rfl ?_
                        refine ar_ret rfl rfl ?_
                        show aRun _ (aCall Mt _) _ 86 (_, [_, _, _], _, _, _)
                        refine ar_if1f rfl (by decide) ?_
                        refine ar_ldI rfl rfl ?_
                        refine ar_inl (mc := 0) (ms := 0) rfl rfl (Nat.le_of_ble_eq_true rfl) (Nat.le_of_ble_eq_true rfl) (by omega) (by omega) ?_
                        refine ac_ink [some (.inl _)] mt_236 (Nat.le_of_ble_eq_true rfl) rfl ?_
                        refine ar_ldI rfl rfl ?_
                        refine ar_push rfl ?_
                        refine ar_if2t rfl c115 ?_
                        refine ar_push rfl ?_
                        refine ar_go rfl ?_
                        refine ar_ret rfl rfl ?_
                        show aRun _ (aCall Mt _) _ 93 (_, [_, _, _], _, _, _)
                        refine ar_if1t rfl (by decide) ?_
                        refine ar_ldI rfl rfl ?_
                        refine ar_go rfl ?_
                        refine ar_ast rfl (hs_ne (by decide) (hs_ne (by decide) (hs_ne (by decide) (hs_ne (by decide) (hs_ne (by decide) (hs_ne (by decide) (hs_ne (by decide) (hr.at 103 (by decide) (by decide) rfl)))))))) (by decide) (Nat.le_of_ble_eq_true rfl) ?_
                        refine ar_ldA rfl rfl ?_
                        refine ar_dup rfl rfl ?_
                        refine ar_get rfl (hs_ne (by decide) (hs_ne (by decide) (hs_ne (by decide) (hs_ne (by decide) (hs_ne (by decide) (hs_ne (by decide) (hs_ne (by decide) (hs_ne (by decide) (hr.at 69 (by decide) (by decide) rfl))))))))) rfl ?_
                        refine ar_push rfl ?_
                        refine ar_bink (z := 1) rfl (by decide) ?_
                        refine ar_put rfl (hs_ne (by decide) (hs_ne (by decide) (hs_ne (by decide) (hs_ne (by decide) (hs_ne (by decide) (hs_ne (by decide) (hs_ne (by decide) (hs_ne (by decide) (hr.at 69 (by decide) (by decide) rfl))))))))) (Nat.le_of_ble_eq_true rfl) rfl ?_
                        refine ar_ldA rfl rfl ?_
                        refine ar_get rfl (hs_eq (hs_ne (by decide) (hs_ne (by decide) (hs_ne (by decide) (hs_ne (by decide) (hs_ne (by decide) (hs_ne (by decide) (hs_ne (by decide) (hs_ne (by decide) (hr.at 69 (by decide) (by decide) rfl)))))))))) rfl ?_
                        refine ar_push rfl ?_
                        refine ar_bink (z := 0) rfl (by decide) ?_
                        refine ar_ret rfl rfl ?_
                        show aRun _ (aCall Mt _) _ 181 (_, [_], _, _, _)
                        refine ar_ret rfl rfl ?_
                        exact ⟨by exfalso; have z0 := (lt_no h0); have z1 := (lt_no h8); have z2 := (wi_to c101); have z3 := (wi_to c102); have z4 := (eq_to c103); have z5 := (wi_to c104); have z6 := (eq_no c105); have z7 := (eq_no (ne_t c114)); have z8 := (eq_to c115); have z9 := (wi_to c116); have z10 := (eq_no (ne_t c117)); have z11 := (kd_nn h0); have z12 := (rg_nn h0); have y0 : ((0) : Int32).toInt = 0 := (by decide); have y1 : ((1) : Int32).toInt = 1 := (by decide); have y2 : ((2) : Int32).toInt = 2 := (by decide); have y3 : ((3) : Int32).toInt = 3 := (by decide); have y4 : ((6) : Int32).toInt = 6 := (by decide); have y5 : ((7) : Int32).toInt = 7 := (by decide); have y6 : ((8) : Int32).toInt = 8 := (by decide); have y7 : ((99) : Int32).toInt = 99 := (by decide); have y8 : ((400) : Int32).toInt = 400 := (by decide); omega, hJ _ _ _⟩
                      · refine ar_ldA rfl rfl ?_
                        refine ar_ldI rfl rfl ?_
                        refine ar_inl (mc := 0) (ms := 0) rfl (rcv_of (hr.at 69 (by decide) (by decide) rfl)) (Nat.le_of_ble_eq_true rfl) (Nat.le_of_ble_eq_true rfl) (by omega) (by omega) ?_
                        refine ac_ink [some (.inr (.inr (some 69))), some (.inl _)] mt_233 (Nat.le_of_ble_eq_true rfl) rfl ?_
                        refine ar_ldI rfl rfl ?_
                        refine ar_push rfl ?_
                        refine ar_ldA rfl rfl ?_
                        refine ar_get rfl (hr.at 69 (by decide) (by decide) rfl) rfl ?_
                        refine ar_push rfl ?_
                        refine ar_bink (z := (-1)) rfl (by decide) ?_
                        refine ar_callv rfl rfl (Nat.le_of_ble_eq_true rfl) (Nat.le_of_ble_eq_true rfl) rfl (sp_in _ _ _ _ _) ?_
                        refine ar_ret rfl (bi_ret _) ?_
                        show aRun _ (aCall Mt _) _ 128 (_, [_], _, _, _)
                        refine ar_if1f rfl (bi_n0f (wi_n1 _)) ?_
                        refine ar_push rfl ?_
                        refine ar_ret rfl rfl ?_
                        exact ⟨rfl, hJ _ _ _⟩
                  · refine ar_ldI rfl rfl ?_
                    refine ar_push rfl ?_
                    refine ar_if2 rfl (fun c118 => ?_) (fun c118 => ?_)
                    · refine ar_push rfl ?_
                      refine ar_ret rfl rfl ?_
                      show aRun _ (aCall Mt _) _ 105 (_, [_], _, _, _)
                      refine ar_if1t rfl (by decide) ?_
                      refine ar_ldI rfl rfl ?_
                      refine ar_push rfl ?_
                      refine ar_if2 rfl (fun c119 => ?_) (fun c119 => ?_)
                      · refine ar_ldA rfl rfl ?_
                        refine ar_get rfl (hr.at 69 (by decide) (by decide) rfl) rfl ?_
                        refine ar_push rfl ?_
                        refine ar_if2t rfl (by decide) ?_
                        refine ar_ldA rfl rfl ?_
                        refine ar_ldI rfl rfl ?_
                        refine ar_ldI rfl rfl ?_
                        refine ar_ldA rfl rfl ?_
                        refine ar_get rfl (hr.at 69 (by decide) (by decide) rfl) rfl ?_
                        refine ar_ldA rfl rfl ?_
                        refine ar_get rfl (hr.at 69 (by decide) (by decide) rfl) rfl ?_
                        refine ar_ldA rfl rfl ?_
                        refine ar_get rfl (hr.at 69 (by decide) (by decide) rfl) rfl ?_
                        refine ar_ldI rfl rfl ?_
                        refine ar_push rfl ?_
                        refine ar_if2f rfl (eq_t c103) ?_
                        refine ar_push rfl ?_
                        refine ar_go rfl ?_
                        refine ar_ldI rfl rfl ?_
                        refine ar_ldI rfl rfl ?_
                        refine ar_inl (mc := 0) (ms := 0) rfl (rcv_of (hr.at 69 (by decide) (by decide) rfl)) (Nat.le_of_ble_eq_true rfl) (Nat.le_of_ble_eq_true rfl) (by omega) (by omega) ?_
                        refine ac_ink [some (.inr (.inr (some 69))), some (.inl _), some (.inl _), some (.inl 0), some (.inl 0), some (.inl 0), some (.inl (-1)), some (.inl _), some (.inl _)] mt_238 (Nat.le_of_ble_eq_true rfl) rfl ?_
                        refine ar_ldA rfl rfl ?_
                        refine ar_get rfl (hr.at 69 (by decide) (by decide) rfl) rfl ?_
                        refine ar_ldA rfl rfl ?_
                        refine ar_get rfl (hr.at 69 (by decide) (by decide) rfl) rfl ?_
                        refine ar_ldI rfl rfl ?_
                        refine ar_ast rfl (hr.at 96 (by decide) (by decide) rfl) (by decide) (Nat.le_of_ble_eq_true rfl) ?_
                        refine ar_ldA rfl rfl ?_
                        refine ar_get rfl (hs_ne (by decide) (hr.at 69 (by decide) (by decide) rfl)) rfl ?_
                        refine ar_ldA rfl rfl ?_
                        refine ar_get rfl (hs_ne (by decide) (hr.at 69 (by decide) (by decide) rfl)) rfl ?_
                        refine ar_ldI rfl rfl ?_
                        refine ar_ast rfl (hs_ne (by decide) (hr.at 97 (by decide) (by decide) rfl)) (by decide) (Nat.le_of_ble_eq_true rfl) ?_
                        refine ar_ldA rfl rfl ?_
                        refine ar_get rfl (hs_ne (by decide) (hs_ne (by decide) (hr.at 69 (by decide) (by decide) rfl))) rfl ?_
                        refine ar_ldA rfl rfl ?_
                        refine ar_get rfl (hs_ne (by decide) (hs_ne (by decide) (hr.at 69 (by decide) (by decide) rfl))) rfl ?_
                        refine ar_ldI rfl rfl ?_
                        refine ar_ast rfl (hs_ne (by decide) (hs_ne (by decide) (hr.at 98 (by decide) (by decide) rfl))) (by decide) (Nat.le_of_ble_eq_true rfl) ?_
                        refine ar_ldA rfl rfl ?_
                        refine ar_get rfl (hs_ne (by decide) (hs_ne (by decide) (hs_ne (by decide) (hr.at 69 (by decide) (by decide) rfl)))) rfl ?_
                        refine ar_ldA rfl rfl ?_
                        refine ar_get rfl (hs_ne (by decide) (hs_ne (by decide) (hs_ne (by decide) (hr.at 69 (by decide) (by decide) rfl)))) rfl ?_
                        refine ar_ldI rfl rfl ?_
                        refine ar_ast rfl (hs_ne (by decide) (hs_ne (by decide) (hs_ne (by decide) (hr.at 99 (by decide) (by decide) rfl)))) (by decide) (Nat.le_of_ble_eq_true rfl) ?_
                        refine ar_ldA rfl rfl ?_
                        refine ar_get rfl (hs_ne (by decide) (hs_ne (by decide) (hs_ne (by decide) (hs_ne (by decide) (hr.at 69 (by decide) (by decide) rfl))))) rfl ?_
                        refine ar_ldA rfl rfl ?_
                        refine ar_get rfl (hs_ne (by decide) (hs_ne (by decide) (hs_ne (by decide) (hs_ne (by decide) (hr.at 69 (by decide) (by decide) rfl))))) rfl ?_
                        refine ar_ldI rfl rfl ?_
                        refine ar_ast rfl (hs_ne (by decide) (hs_ne (by decide) (hs_ne (by decide) (hs_ne (by decide) (hr.at 100 (by decide) (by decide) rfl))))) (by decide) (Nat.le_of_ble_eq_true rfl) ?_
                        refine ar_ldA rfl rfl ?_
                        refine ar_get rfl (hs_ne (by decide) (hs_ne (by decide) (hs_ne (by decide) (hs_ne (by decide) (hs_ne (by decide) (hr.at 69 (by decide) (by decide) rfl)))))) rfl ?_
                        refine ar_ldA rfl rfl ?_
                        refine ar_get rfl (hs_ne (by decide) (hs_ne (by decide) (hs_ne (by decide) (hs_ne (by decide) (hs_ne (by decide) (hr.at 69 (by decide) (by decide) rfl)))))) rfl ?_
                        refine ar_ldI rfl rfl ?_
                        refine ar_ast rfl (hs_ne (by decide) (hs_ne (by decide) (hs_ne (by decide) (hs_ne (by decide) (hs_ne (by decide) (hr.at 101 (by decide) (by decide) rfl)))))) (by decide) (Nat.le_of_ble_eq_true rfl) ?_
                        refine ar_ldA rfl rfl ?_
                        refine ar_get rfl (hs_ne (by decide) (hs_ne (by decide) (hs_ne (by decide) (hs_ne (by decide) (hs_ne (by decide) (hs_ne (by decide) (hr.at 69 (by decide) (by decide) rfl))))))) rfl ?_
                        refine ar_ldA rfl rfl ?_
                        refine ar_get rfl (hs_ne (by decide) (hs_ne (by decide) (hs_ne (by decide) (hs_ne (by decide) (hs_ne (by decide) (hs_ne (by decide) (hr.at 69 (by decide) (by decide) rfl))))))) rfl ?_
                        refine ar_ldI rfl rfl ?_
                        refine ar_ast rfl (hs_ne (by decide) (hs_ne (by decide) (hs_ne (by decide) (hs_ne (by decide) (hs_ne (by decide) (hs_ne (by decide) (hr.at 102 (by decide) (by decide) rfl))))))) (by decide) (Nat.le_of_ble_eq_true rfl) ?_
                        refine ar_ldA rfl rfl ?_
                        refine ar_get rfl (hs_ne (by decide) (hs_ne (by decide) (hs_ne (by decide) (hs_ne (by decide) (hs_ne (by decide) (hs_ne (by decide) (hs_ne (by decide) (hr.at 69 (by decide) (by decide) rfl)))))))) rfl ?_
                        refine ar_ldA rfl rfl ?_
                        refine ar_get rfl (hs_ne (by decide) (hs_ne (by decide) (hs_ne (by decide) (hs_ne (by decide) (hs_ne (by decide) (hs_ne (by decide) (hs_ne (by decide) (hr.at 69 (by decide) (by decide) rfl)))))))) rfl ?_
                        refine ar_ldI rfl rfl ?_
                        refine ar_inl (mc := 0) (ms := 0) rfl rfl (Nat.le_of_ble_eq_true rfl) (Nat.le_of_ble_eq_true rfl) (by omega) (by omega) ?_
                        refine ac_ink [some (.inl _)] mt_235 (Nat.le_of_ble_eq_true rfl) rfl ?_
                        refine ar_ldI rfl rfl ?_
                        refine ar_push rfl ?_
                        refine ar_if2f rfl c105 ?_
                        refine ar_ldI rfl rfl ?_
                        refine ar_push rfl ?_
                        refine ar_if2t rfl (eq_f (ne_t c114)) ?_
                        refine ar_push rfl ?_
                        refine ar_ret rfl rfl ?_
                        show aRun _ (aCall Mt _) _ 86 (_, [_, _, _], _, _, _)
                        refine ar_if1f rfl (by decide) ?_
                        refine ar_ldI rfl rfl ?_
                        refine ar_inl (mc := 0) (ms := 0) rfl rfl (Nat.le_of_ble_eq_true rfl) (Nat.le_of_ble_eq_true rfl) (by omega) (by omega) ?_
                        refine ac_ink [some (.inl _)] mt_236 (Nat.le_of_ble_eq_true rfl) rfl ?_
                        refine ar_ldI rfl rfl ?_
                        refine ar_push rfl ?_
                        refine ar_if2f rfl c115 ?_
                        refine ar_ldI rfl rfl ?_
                        refine ar_push rfl ?_
                        refine ar_if2t rfl (eq_f (ne_t c118)) ?_
                        refine ar_push rfl ?_
                        refine ar_ret rfl rfl ?_
                        show aRun _ (aCall Mt _) _ 93 (_, [_, _, _], _, _, _)
                        refine ar_if1f rfl (by decide) ?_
                        refine ar_ldI rfl rfl ?_
                        refine ar_push rfl ?_
                        refine ar_if2t rfl (eq_f (ne_t c119)) ?_
                        refine ar_push rfl ?_
                        refine ar_ast rfl (hs_ne (by decide) (hs_ne (by decide) (hs_ne (by decide) (hs_ne (by decide) (hs_ne (by decide) (hs_ne (by decide) (hs_ne (by decide) (hr.at 103 (by decide) (by decide) rfl)))))))) (by decide) (Nat.le_of_ble_eq_true rfl) ?_
                        refine ar_ldA rfl rfl ?_
                        refine ar_dup rfl rfl ?_
                        refine ar_get rfl (hs_ne (by decide) (hs_ne (by decide) (hs_ne (by decide) (hs_ne (by decide) (hs_ne (by decide) (hs_ne (by decide) (hs_ne (by decide) (hs_ne (by decide) (hr.at 69 (by decide) (by decide) rfl))))))))) rfl ?_
                        refine ar_push rfl ?_
                        refine ar_bink (z := 1) rfl (by decide) ?_
                        refine ar_put rfl (hs_ne (by decide) (hs_ne (by decide) (hs_ne (by decide) (hs_ne (by decide) (hs_ne (by decide) (hs_ne (by decide) (hs_ne (by decide) (hs_ne (by decide) (hr.at 69 (by decide) (by decide) rfl))))))))) (Nat.le_of_ble_eq_true rfl) rfl ?_
                        refine ar_ldA rfl rfl ?_
                        refine ar_get rfl (hs_eq (hs_ne (by decide) (hs_ne (by decide) (hs_ne (by decide) (hs_ne (by decide) (hs_ne (by decide) (hs_ne (by decide) (hs_ne (by decide) (hs_ne (by decide) (hr.at 69 (by decide) (by decide) rfl)))))))))) rfl ?_
                        refine ar_push rfl ?_
                        refine ar_bink (z := 0) rfl (by decide) ?_
                        refine ar_ret rfl rfl ?_
                        show aRun _ (aCall Mt _) _ 181 (_, [_], _, _, _)
                        refine ar_ret rfl rfl ?_
                        exact ⟨by exfalso; have z0 := (lt_no h0); have z1 := (lt_no h8); have z2 := (wi_to c101); have z3 := (wi_to c102); have z4 := (eq_to c103); have z5 := (wi_to c104); have z6 := (eq_no c105); have z7 := (eq_no (ne_t c114)); have z8 := (eq_no c115); have z9 := (eq_no (ne_t c118)); have z10 := (eq_no (ne_t c119)); have z11 := (kd_nn h0); have z12 := (rg_nn h0); have y0 : ((0) : Int32).toInt = 0 := (by decide); have y1 : ((1) : Int32).toInt = 1 := (by decide); have y2 : ((2) : Int32).toInt = 2 := (by decide); have y3 : ((3) : Int32).toInt = 3 := (by decide); have y4 : ((6) : Int32).toInt = 6 := (by decide); have y5 : ((7) : Int32).toInt = 7 := (by decide); have y6 : ((8) : Int32).toInt = 8 := (by decide); have y7 : ((99) : Int32).toInt = 99 := (by decide); have y8 : ((400) : Int32).toInt = 400 := (by decide); omega, hJ _ _ _⟩
                      · refine ar_ldA rfl rfl ?_
                        refine ar_ldI rfl rfl ?_
                        refine ar_inl (mc := 0) (ms := 0) rfl (rcv_of (hr.at 69 (by decide) (by decide) rfl)) (Nat.le_of_ble_eq_true rfl) (Nat.le_of_ble_eq_true rfl) (by omega) (by omega) ?_
                        refine ac_ink [some (.inr (.inr (some 69))), some (.inl _)] mt_233 (Nat.le_of_ble_eq_true rfl) rfl ?_
                        refine ar_ldI rfl rfl ?_
                        refine ar_push rfl ?_
                        refine ar_ldA rfl rfl ?_
                        refine ar_get rfl (hr.at 69 (by decide) (by decide) rfl) rfl ?_
                        refine ar_push rfl ?_
                        refine ar_bink (z := (-1)) rfl (by decide) ?_
                        refine ar_callv rfl rfl (Nat.le_of_ble_eq_true rfl) (Nat.le_of_ble_eq_true rfl) rfl (sp_in _ _ _ _ _) ?_
                        refine ar_ret rfl (bi_ret _) ?_
                        show aRun _ (aCall Mt _) _ 128 (_, [_], _, _, _)
                        refine ar_if1f rfl (bi_n0f (wi_n1 _)) ?_
                        refine ar_push rfl ?_
                        refine ar_ret rfl rfl ?_
                        exact ⟨rfl, hJ _ _ _⟩
                    · refine ar_push rfl ?_
                      refine ar_go rfl ?_
                      refine ar_ret rfl rfl ?_
                      show aRun _ (aCall Mt _) _ 105 (_, [_], _, _, _)
                      refine ar_if1f rfl (by decide) ?_
                      refine ar_ldI rfl rfl ?_
                      refine ar_push rfl ?_
                      refine ar_push rfl ?_
                      refine ar_callv rfl rfl (Nat.le_of_ble_eq_true rfl) (Nat.le_of_ble_eq_true rfl) rfl (sp_in _ _ _ _ _) ?_
                      refine ar_eqB rfl (fun c120 => ?_) (fun c120 => ?_)
                      · refine ar_push rfl ?_
                        refine ar_ret rfl rfl ?_
                        exact ⟨rfl, hJ _ _ _⟩
                      · refine ar_ldI rfl rfl ?_
                        refine ar_push rfl ?_
                        refine ar_if2 rfl (fun c121 => ?_) (fun c121 => ?_)
                        · refine ar_ldA rfl rfl ?_
                          refine ar_get rfl (hr.at 69 (by decide) (by decide) rfl) rfl ?_
                          refine ar_push rfl ?_
                          refine ar_if2t rfl (by decide) ?_
                          refine ar_ldA rfl rfl ?_
                          refine ar_ldI rfl rfl ?_
                          refine ar_ldI rfl rfl ?_
                          refine ar_ldA rfl rfl ?_
                          refine ar_get rfl (hr.at 69 (by decide) (by decide) rfl) rfl ?_
                          refine ar_ldA rfl rfl ?_
                          refine ar_get rfl (hr.at 69 (by decide) (by decide) rfl) rfl ?_
                          refine ar_ldA rfl rfl ?_
                          refine ar_get rfl (hr.at 69 (by decide) (by decide) rfl) rfl ?_
                          refine ar_ldI rfl rfl ?_
                          refine ar_push rfl ?_
                          refine ar_if2f rfl (eq_t c103) ?_
                          refine ar_push rfl ?_
                          refine ar_go rfl ?_
                          refine ar_ldI rfl rfl ?_
                          refine ar_ldI rfl rfl ?_
                          refine ar_inl (mc := 0) (ms := 0) rfl (rcv_of (hr.at 69 (by decide) (by decide) rfl)) (Nat.le_of_ble_eq_true rfl) (Nat.le_of_ble_eq_true rfl) (by omega) (by omega) ?_
                          refine ac_ink [some (.inr (.inr (some 69))), some (.inl _), some (.inl _), some (.inl 0), some (.inl 0), some (.inl 0), some (.inl (-1)), some (.inl _), some (.inl _)] mt_238 (Nat.le_of_ble_eq_true rfl) rfl ?_
                          refine ar_ldA rfl rfl ?_
                          refine ar_get rfl (hr.at 69 (by decide) (by decide) rfl) rfl ?_
                          refine ar_ldA rfl rfl ?_
                          refine ar_get rfl (hr.at 69 (by decide) (by decide) rfl) rfl ?_
                          refine ar_ldI rfl rfl ?_
                          refine ar_ast rfl (hr.at 96 (by decide) (by decide) rfl) (by decide) (Nat.le_of_ble_eq_true rfl) ?_
                          refine ar_ldA rfl rfl ?_
                          refine ar_get rfl (hs_ne (by decide) (hr.at 69 (by decide) (by decide) rfl)) rfl ?_
                          refine ar_ldA rfl rfl ?_
                          refine ar_get rfl (hs_ne (by decide) (hr.at 69 (by decide) (by decide) rfl)) rfl ?_
                          refine ar_ldI rfl rfl ?_
                          refine ar_ast rfl (hs_ne (by decide) (hr.at 97 (by decide) (by decide) rfl)) (by decide) (Nat.le_of_ble_eq_true rfl) ?_
                          refine ar_ldA rfl rfl ?_
                          refine ar_get rfl (hs_ne (by decide) (hs_ne (by decide) (hr.at 69 (by decide) (by decide) rfl))) rfl ?_
                          refine ar_ldA rfl rfl ?_
                          refine ar_get rfl (hs_ne (by decide) (hs_ne (by decide) (hr.at 69 (by decide) (by decide) rfl))) rfl ?_
                          refine ar_ldI rfl rfl ?_
                          refine ar_ast rfl (hs_ne (by decide) (hs_ne (by decide) (hr.at 98 (by decide) (by decide) rfl))) (by decide) (Nat.le_of_ble_eq_true rfl) ?_
                          refine ar_ldA rfl rfl ?_
                          refine ar_get rfl (hs_ne (by decide) (hs_ne (by decide) (hs_ne (by decide) (hr.at 69 (by decide) (by decide) rfl)))) rfl ?_
                          refine ar_ldA rfl rfl ?_
                          refine ar_get rfl (hs_ne (by decide) (hs_ne (by decide) (hs_ne (by decide) (hr.at 69 (by decide) (by decide) rfl)))) rfl ?_
                          refine ar_ldI rfl rfl ?_
                          refine ar_ast rfl (hs_ne (by decide) (hs_ne (by decide) (hs_ne (by decide) (hr.at 99 (by decide) (by decide) rfl)))) (by decide) (Nat.le_of_ble_eq_true rfl) ?_
                          refine ar_ldA rfl rfl ?_
                          refine ar_get rfl (hs_ne (by decide) (hs_ne (by decide) (hs_ne (by decide) (hs_ne (by decide) (hr.at 69 (by decide) (by decide) rfl))))) rfl ?_
                          refine ar_ldA rfl rfl ?_
                          refine ar_get rfl (hs_ne (by decide) (hs_ne (by decide) (hs_ne (by decide) (hs_ne (by decide) (hr.at 69 (by decide) (by decide) rfl))))) rfl ?_
                          refine ar_ldI rfl rfl ?_
                          refine ar_ast rfl (hs_ne (by decide) (hs_ne (by decide) (hs_ne (by decide) (hs_ne (by decide) (hr.at 100 (by decide) (by decide) rfl))))) (by decide) (Nat.le_of_ble_eq_true rfl) ?_
                          refine ar_ldA rfl rfl ?_
                          refine ar_get rfl (hs_ne (by decide) (hs_ne (by decide) (hs_ne (by decide) (hs_ne (by decide) (hs_ne (by decide) (hr.at 69 (by decide) (by decide) rfl)))))) rfl ?_
                          refine ar_ldA rfl rfl ?_
                          refine ar_get rfl (hs_ne (by decide) (hs_ne (by decide) (hs_ne (by decide) (hs_ne (by decide) (hs_ne (by decide) (hr.at 69 (by decide) (by decide) rfl)))))) rfl ?_
                          refine ar_ldI rfl rfl ?_
                          refine ar_ast rfl (hs_ne (by decide) (hs_ne (by decide) (hs_ne (by decide) (hs_ne (by decide) (hs_ne (by decide) (hr.at 101 (by decide) (by decide) rfl)))))) (by decide) (Nat.le_of_ble_eq_true rfl) ?_
                          refine ar_ldA rfl rfl ?_
                          refine ar_get rfl (hs_ne (by decide) (hs_ne (by decide) (hs_ne (by decide) (hs_ne (by decide) (hs_ne (by decide) (hs_ne (by decide) (hr.at 69 (by decide) (by decide) rfl))))))) rfl ?_
                          refine ar_ldA rfl rfl ?_
                          refine ar_get rfl (hs_ne (by decide) (hs_ne (by decide) (hs_ne (by decide) (hs_ne (by decide) (hs_ne (by decide) (hs_ne (by decide) (hr.at 69 (by decide) (by decide) rfl))))))) rfl ?_
                          refine ar_ldI rfl rfl ?_
                          refine ar_ast rfl (hs_ne (by decide) (hs_ne (by decide) (hs_ne (by decide) (hs_ne (by decide) (hs_ne (by decide) (hs_ne (by decide) (hr.at 102 (by decide) (by decide) rfl))))))) (by decide) (Nat.le_of_ble_eq_true rfl) ?_
                          refine ar_ldA rfl rfl ?_
                          refine ar_get rfl (hs_ne (by decide) (hs_ne (by decide) (hs_ne (by decide) (hs_ne (by decide) (hs_ne (by decide) (hs_ne (by decide) (hs_ne (by decide) (hr.at 69 (by decide) (by decide) rfl)))))))) rfl ?_
                          refine ar_ldA rfl rfl ?_
                          refine ar_get rfl (hs_ne (by decide) (hs_ne (by decide) (hs_ne (by decide) (hs_ne (by decide) (hs_ne (by decide) (hs_ne (by decide) (hs_ne (by decide) (hr.at 69 (by decide) (by decide) rfl)))))))) rfl ?_
                          refine ar_ldI rfl rfl ?_
                          refine ar_inl (mc := 0) (ms := 0) rfl rfl (Nat.le_of_ble_eq_true rfl) (Nat.le_of_ble_eq_true rfl) (by omega) (by omega) ?_
                          refine ac_ink [some (.inl _)] mt_235 (Nat.le_of_ble_eq_true rfl) rfl ?_
                          refine ar_ldI rfl rfl ?_
                          refine ar_push rfl ?_
                          refine ar_if2f rfl c105 ?_
                          refine ar_ldI rfl rfl ?_
                          refine ar_push rfl ?_
                          refine ar_if2t rfl (eq_f (ne_t c114)) ?_
                          refine ar_push rfl ?_
                          refine ar_ret rfl rfl ?_
                          show aRun _ (aCall Mt _) _ 86 (_, [_, _, _], _, _, _)
                          refine ar_if1f rfl (by decide) ?_
                          refine ar_ldI rfl rfl ?_
                          refine ar_inl (mc := 0) (ms := 0) rfl rfl (Nat.le_of_ble_eq_true rfl) (Nat.le_of_ble_eq_true rfl) (by omega) (by omega) ?_
                          refine ac_ink [some (.inl _)] mt_236 (Nat.le_of_ble_eq_true rfl) rfl ?_
                          refine ar_ldI rfl rfl ?_
                          refine ar_push rfl ?_
                          refine ar_if2f rfl c115 ?_
                          refine ar_ldI rfl rfl ?_
                          refine ar_push rfl ?_
                          refine ar_if2f rfl (eq_t (ne_f c118)) ?_
                          refine ar_push rfl ?_
                          refine ar_go rfl ?_
                          refine ar_ret rfl rfl ?_
                          show aRun _ (aCall Mt _) _ 93 (_, [_, _, _], _, _, _)
                          refine ar_if1t rfl (by decide) ?_
                          refine ar_ldI rfl rfl ?_
                          refine ar_go rfl ?_
                          refine ar_ast rfl (hs_ne (by decide) (hs_ne (by decide) (hs_ne (by decide) (hs_ne (by decide) (hs_ne (by decide) (hs_ne (by decide) (hs_ne (by decide) (hr.at 103 (by decide) (by decide) rfl)))))))) (by decide) (Nat.le_of_ble_eq_true rfl) ?_
                          refine ar_ldA rfl rfl ?_
                          refine ar_dup rfl rfl ?_
                          refine ar_get rfl (hs_ne (by decide) (hs_ne (by decide) (hs_ne (by decide) (hs_ne (by decide) (hs_ne (by decide) (hs_ne (by decide) (hs_ne (by decide) (hs_ne (by decide) (hr.at 69 (by decide) (by decide) rfl))))))))) rfl ?_
                          refine ar_push rfl ?_
                          refine ar_bink (z := 1) rfl (by decide) ?_
                          refine ar_put rfl (hs_ne (by decide) (hs_ne (by decide) (hs_ne (by decide) (hs_ne (by decide) (hs_ne (by decide) (hs_ne (by decide) (hs_ne (by decide) (hs_ne (by decide) (hr.at 69 (by decide) (by decide) rfl))))))))) (Nat.le_of_ble_eq_true rfl) rfl ?_
                          refine ar_ldA rfl rfl ?_
                          refine ar_get rfl (hs_eq (hs_ne (by decide) (hs_ne (by decide) (hs_ne (by decide) (hs_ne (by decide) (hs_ne (by decide) (hs_ne (by decide) (hs_ne (by decide) (hs_ne (by decide) (hr.at 69 (by decide) (by decide) rfl)))))))))) rfl ?_
                          refine ar_push rfl ?_
                          refine ar_bink (z := 0) rfl (by decide) ?_
                          refine ar_ret rfl rfl ?_
                          show aRun _ (aCall Mt _) _ 181 (_, [_], _, _, _)
                          refine ar_ret rfl rfl ?_
                          exact ⟨by exfalso; have z0 := (lt_no h0); have z1 := (lt_no h8); have z2 := (wi_to c101); have z3 := (wi_to c102); have z4 := (eq_to c103); have z5 := (wi_to c104); have z6 := (eq_no c105); have z7 := (eq_no (ne_t c114)); have z8 := (eq_no c115); have z9 := (eq_to (ne_f c118)); have z10 := (wi_to c120); have z11 := (eq_no (ne_t c121)); have z12 := (kd_nn h0); have z13 := (rg_nn h0); have y0 : ((0) : Int32).toInt = 0 := (by decide); have y1 : ((1) : Int32).toInt = 1 := (by decide); have y2 : ((2) : Int32).toInt = 2 := (by decide); have y3 : ((3) : Int32).toInt = 3 := (by decide); have y4 : ((6) : Int32).toInt = 6 := (by decide); have y5 : ((7) : Int32).toInt = 7 := (by decide); have y6 : ((8) : Int32).toInt = 8 := (by decide); have y7 : ((99) : Int32).toInt = 99 := (by decide); have y8 : ((400) : Int32).toInt = 400 := (by decide); omega, hJ _ _ _⟩
                        · refine ar_ldA rfl rfl ?_
                          refine ar_ldI rfl rfl ?_
                          refine ar_inl (mc := 0) (ms := 0) rfl (rcv_of (hr.at 69 (by decide) (by decide) rfl)) (Nat.le_of_ble_eq_true rfl) (Nat.le_of_ble_eq_true rfl) (by omega) (by omega) ?_
                          refine ac_ink [some (.inr (.inr (some 69))), some (.inl _)] mt_233 (Nat.le_of_ble_eq_true rfl) rfl ?_
                          refine ar_ldI rfl rfl ?_
                          refine ar_push rfl ?_
                          refine ar_ldA rfl rfl ?_
                          refine ar_get rfl (hr.at 69 (by decide) (by decide) rfl) rfl ?_
                          refine ar_push rfl ?_
                          refine ar_bink (z := (-1)) rfl (by decide) ?_
                          refine ar_callv rfl rfl (Nat.le_of_ble_eq_true rfl) (Nat.le_of_ble_eq_true rfl) rfl (sp_in _ _ _ _ _) ?_
                          refine ar_ret rfl (bi_ret _) ?_
                          show aRun _ (aCall Mt _) _ 128 (_, [_], _, _, _)
                          refine ar_if1f rfl (bi_n0f (wi_n1 _)) ?_
                          refine ar_push rfl ?_
                          refine ar_ret rfl rfl ?_
                          exact ⟨rfl, hJ _ _ _⟩
                · refine ar_push rfl ?_
                  refine ar_go rfl ?_
                  refine ar_ret rfl rfl ?_
                  show aRun _ (aCall Mt _) _ 87 (_, [_], _, _, _)
                  refine ar_if1f rfl (by decide) ?_
                  refine ar_ldI rfl rfl ?_
                  refine ar_push rfl ?_
                  refine ar_push rfl ?_
                  refine ar_callv rfl rfl (Nat.le_of_ble_eq_true rfl) (Nat.le_of_ble_eq_true rfl) rfl (sp_in _ _ _ _ _) ?_
                  refine ar_eqB rfl (fun c122 => ?_) (fun c122 => ?_)
                  · refine ar_push rfl ?_
                    refine ar_ret rfl rfl ?_
                    exact ⟨rfl, hJ _ _ _⟩
                  · refine ar_ldI rfl rfl ?_
                    refine ar_inl (mc := 0) (ms := 0) rfl rfl (Nat.le_of_ble_eq_true rfl) (Nat.le_of_ble_eq_true rfl) (by omega) (by omega) ?_
                    refine ac_ink [some (.inl _)] mt_236 (Nat.le_of_ble_eq_true rfl) rfl ?_
                    refine ar_ldI rfl rfl ?_
                    refine ar_push rfl ?_
                    refine ar_if2 rfl (fun c123 => ?_) (fun c123 => ?_)
                    · refine ar_push rfl ?_
                      refine ar_go rfl ?_
                      refine ar_ret rfl rfl ?_
                      show aRun _ (aCall Mt _) _ 105 (_, [_], _, _, _)
                      refine ar_if1f rfl (by decide) ?_
                      refine ar_ldI rfl rfl ?_
                      refine ar_push rfl ?_
                      refine ar_push rfl ?_
                      refine ar_callv rfl rfl (Nat.le_of_ble_eq_true rfl) (Nat.le_of_ble_eq_true rfl) rfl (sp_in _ _ _ _ _) ?_
                      refine ar_eqB rfl (fun c124 => ?_) (fun c124 => ?_)
                      · refine ar_push rfl ?_
                        refine ar_ret rfl rfl ?_
                        exact ⟨rfl, hJ _ _ _⟩
                      · refine ar_ldI rfl rfl ?_
                        refine ar_push rfl ?_
                        refine ar_if2 rfl (fun c125 => ?_) (fun c125 => ?_)
                        · refine ar_ldA rfl rfl ?_
                          refine ar_get rfl (hr.at 69 (by decide) (by decide) rfl) rfl ?_
                          refine ar_push rfl ?_
                          refine ar_if2t rfl (by decide) ?_
                          refine ar_ldA rfl rfl ?_
                          refine ar_ldI rfl rfl ?_
                          refine ar_ldI rfl rfl ?_
                          refine ar_ldA rfl rfl ?_
                          refine ar_get rfl (hr.at 69 (by decide) (by decide) rfl) rfl ?_
                          refine ar_ldA rfl rfl ?_
                          refine ar_get rfl (hr.at 69 (by decide) (by decide) rfl) rfl ?_
                          refine ar_ldA rfl rfl ?_
                          refine ar_get rfl (hr.at 69 (by decide) (by decide) rfl) rfl ?_
                          refine ar_ldI rfl rfl ?_
                          refine ar_push rfl ?_
                          refine ar_if2f rfl (eq_t c103) ?_
                          refine ar_push rfl ?_
                          refine ar_go rfl ?_
                          refine ar_ldI rfl rfl ?_
                          refine ar_ldI rfl rfl ?_
                          refine ar_inl (mc := 0) (ms := 0) rfl (rcv_of (hr.at 69 (by decide) (by decide) rfl)) (Nat.le_of_ble_eq_true rfl) (Nat.le_of_ble_eq_true rfl) (by omega) (by omega) ?_
                          refine ac_ink [some (.inr (.inr (some 69))), some (.inl _), some (.inl _), some (.inl 0), some (.inl 0), some (.inl 0), some (.inl (-1)), some (.inl _), some (.inl _)] mt_238 (Nat.le_of_ble_eq_true rfl) rfl ?_
                          refine ar_ldA rfl rfl ?_
                          refine ar_get rfl (hr.at 69 (by decide) (by decide) rfl) rfl ?_
                          refine ar_ldA rfl rfl ?_
                          refine ar_get rfl (hr.at 69 (by decide) (by decide) rfl) rfl ?_
                          refine ar_ldI rfl rfl ?_
                          refine ar_ast rfl (hr.at 96 (by decide) (by decide) rfl) (by decide) (Nat.le_of_ble_eq_true rfl) ?_
                          refine ar_ldA rfl rfl ?_
                          refine ar_get rfl (hs_ne (by decide) (hr.at 69 (by decide) (by decide) rfl)) rfl ?_
                          refine ar_ldA rfl rfl ?_
                          refine ar_get rfl (hs_ne (by decide) (hr.at 69 (by decide) (by decide) rfl)) rfl ?_
                          refine ar_ldI rfl rfl ?_
                          refine ar_ast rfl (hs_ne (by decide) (hr.at 97 (by decide) (by decide) rfl)) (by decide) (Nat.le_of_ble_eq_true rfl) ?_
                          refine ar_ldA rfl rfl ?_
                          refine ar_get rfl (hs_ne (by decide) (hs_ne (by decide) (hr.at 69 (by decide) (by decide) rfl))) rfl ?_
                          refine ar_ldA rfl rfl ?_
                          refine ar_get rfl (hs_ne (by decide) (hs_ne (by decide) (hr.at 69 (by decide) (by decide) rfl))) rfl ?_
                          refine ar_ldI rfl rfl ?_
                          refine ar_ast rfl (hs_ne (by decide) (hs_ne (by decide) (hr.at 98 (by decide) (by decide) rfl))) (by decide) (Nat.le_of_ble_eq_true rfl) ?_
                          refine ar_ldA rfl rfl ?_
                          refine ar_get rfl (hs_ne (by decide) (hs_ne (by decide) (hs_ne (by decide) (hr.at 69 (by decide) (by decide) rfl)))) rfl ?_
                          refine ar_ldA rfl rfl ?_
                          refine ar_get rfl (hs_ne (by decide) (hs_ne (by decide) (hs_ne (by decide) (hr.at 69 (by decide) (by decide) rfl)))) rfl ?_
                          refine ar_ldI rfl rfl ?_
                          refine ar_ast rfl (hs_ne (by decide) (hs_ne (by decide) (hs_ne (by decide) (hr.at 99 (by decide) (by decide) rfl)))) (by decide) (Nat.le_of_ble_eq_true rfl) ?_
                          refine ar_ldA rfl rfl ?_
                          refine ar_get rfl (hs_ne (by decide) (hs_ne (by decide) (hs_ne (by decide) (hs_ne (by decide) (hr.at 69 (by decide) (by decide) rfl))))) rfl ?_
                          refine ar_ldA rfl rfl ?_
                          refine ar_get rfl (hs_ne (by decide) (hs_ne (by decide) (hs_ne (by decide) (hs_ne (by decide) (hr.at 69 (by decide) (by decide) rfl))))) rfl ?_
                          refine ar_ldI rfl rfl ?_
                          refine ar_ast rfl (hs_ne (by decide) (hs_ne (by decide) (hs_ne (by decide) (hs_ne (by decide) (hr.at 100 (by decide) (by decide) rfl))))) (by decide) (Nat.le_of_ble_eq_true rfl) ?_
                          refine ar_ldA rfl rfl ?_
                          refine ar_get rfl (hs_ne (by decide) (hs_ne (by decide) (hs_ne (by decide) (hs_ne (by decide) (hs_ne (by decide) (hr.at 69 (by decide) (by decide) rfl)))))) rfl ?_
                          refine ar_ldA rfl rfl ?_
                          refine ar_get rfl (hs_ne (by decide) (hs_ne (by decide) (hs_ne (by decide) (hs_ne (by decide) (hs_ne (by decide) (hr.at 69 (by decide) (by decide) rfl)))))) rfl ?_
                          refine ar_ldI rfl rfl ?_
                          refine ar_ast rfl (hs_ne (by decide) (hs_ne (by decide) (hs_ne (by decide) (hs_ne (by decide) (hs_ne (by decide) (hr.at 101 (by decide) (by decide) rfl)))))) (by decide) (Nat.le_of_ble_eq_true rfl) ?_
                          refine ar_ldA rfl rfl ?_
                          refine ar_get rfl (hs_ne (by decide) (hs_ne (by decide) (hs_ne (by decide) (hs_ne (by decide) (hs_ne (by decide) (hs_ne (by decide) (hr.at 69 (by decide) (by decide) rfl))))))) rfl ?_
                          refine ar_ldA rfl rfl ?_
                          refine ar_get rfl (hs_ne (by decide) (hs_ne (by decide) (hs_ne (by decide) (hs_ne (by decide) (hs_ne (by decide) (hs_ne (by decide) (hr.at 69 (by decide) (by decide) rfl))))))) rfl ?_
                          refine ar_ldI rfl rfl ?_
                          refine ar_ast rfl (hs_ne (by decide) (hs_ne (by decide) (hs_ne (by decide) (hs_ne (by decide) (hs_ne (by decide) (hs_ne (by decide) (hr.at 102 (by decide) (by decide) rfl))))))) (by decide) (Nat.le_of_ble_eq_true rfl) ?_
                          refine ar_ldA rfl rfl ?_
                          refine ar_get rfl (hs_ne (by decide) (hs_ne (by decide) (hs_ne (by decide) (hs_ne (by decide) (hs_ne (by decide) (hs_ne (by decide) (hs_ne (by decide) (hr.at 69 (by decide) (by decide) rfl)))))))) rfl ?_
                          refine ar_ldA rfl rfl ?_
                          refine ar_get rfl (hs_ne (by decide) (hs_ne (by decide) (hs_ne (by decide) (hs_ne (by decide) (hs_ne (by decide) (hs_ne (by decide) (hs_ne (by decide) (hr.at 69 (by decide) (by decide) rfl)))))))) rfl ?_
                          refine ar_ldI rfl rfl ?_
                          refine ar_inl (mc := 0) (ms := 0) rfl rfl (Nat.le_of_ble_eq_true rfl) (Nat.le_of_ble_eq_true rfl) (by omega) (by omega) ?_
                          refine ac_ink [some (.inl _)] mt_235 (Nat.le_of_ble_eq_true rfl) rfl ?_
                          refine ar_ldI rfl rfl ?_
                          refine ar_push rfl ?_
                          refine ar_if2f rfl c105 ?_
                          refine ar_ldI rfl rfl ?_
                          refine ar_push rfl ?_
                          refine ar_if2f rfl (eq_t (ne_f c114)) ?_
                          refine ar_push rfl ?_
                          refine ar_go rfl ?_
                          refine ar_ret rfl rfl ?_
                          show aRun _ (aCall Mt _) _ 86 (_, [_, _, _], _, _, _)
                          refine ar_if1t rfl (by decide) ?_
                          refine ar_ldI rfl rfl ?_
                          refine ar_go rfl ?_
                          refine ar_ast rfl (hs_ne (by decide) (hs_ne (by decide) (hs_ne (by decide) (hs_ne (by decide) (hs_ne (by decide) (hs_ne (by decide) (hs_ne (by decide) (hr.at 103 (by decide) (by decide) rfl)))))))) (by decide) (Nat.le_of_ble_eq_true rfl) ?_
                          refine ar_ldA rfl rfl ?_
                          refine ar_dup rfl rfl ?_
                          refine ar_get rfl (hs_ne (by decide) (hs_ne (by decide) (hs_ne (by decide) (hs_ne (by decide) (hs_ne (by decide) (hs_ne (by decide) (hs_ne (by decide) (hs_ne (by decide) (hr.at 69 (by decide) (by decide) rfl))))))))) rfl ?_
                          refine ar_push rfl ?_
                          refine ar_bink (z := 1) rfl (by decide) ?_
                          refine ar_put rfl (hs_ne (by decide) (hs_ne (by decide) (hs_ne (by decide) (hs_ne (by decide) (hs_ne (by decide) (hs_ne (by decide) (hs_ne (by decide) (hs_ne (by decide) (hr.at 69 (by decide) (by decide) rfl))))))))) (Nat.le_of_ble_eq_true rfl) rfl ?_
                          refine ar_ldA rfl rfl ?_
                          refine ar_get rfl (hs_eq (hs_ne (by decide) (hs_ne (by decide) (hs_ne (by decide) (hs_ne (by decide) (hs_ne (by decide) (hs_ne (by decide) (hs_ne (by decide) (hs_ne (by decide) (hr.at 69 (by decide) (by decide) rfl)))))))))) rfl ?_
                          refine ar_push rfl ?_
                          refine ar_bink (z := 0) rfl (by decide) ?_
                          refine ar_ret rfl rfl ?_
                          show aRun _ (aCall Mt _) _ 181 (_, [_], _, _, _)
                          refine ar_ret rfl rfl ?_
                          exact ⟨by exfalso; have z0 := (lt_no h0); have z1 := (lt_no h8); have z2 := (wi_to c101); have z3 := (wi_to c102); have z4 := (eq_to c103); have z5 := (wi_to c104); have z6 := (eq_no c105); have z7 := (eq_to (ne_f c114)); have z8 := (wi_to c122); have z9 := (eq_to c123); have z10 := (wi_to c124); have z11 := (eq_no (ne_t c125)); have z12 := (kd_nn h0); have z13 := (rg_nn h0); have y0 : ((0) : Int32).toInt = 0 := (by decide); have y1 : ((1) : Int32).toInt = 1 := (by decide); have y2 : ((2) : Int32).toInt = 2 := (by decide); have y3 : ((3) : Int32).toInt = 3 := (by decide); have y4 : ((6) : Int32).toInt = 6 := (by decide); have y5 : ((7) : Int32).toInt = 7 := (by decide); have y6 : ((8) : Int32).toInt = 8 := (by decide); have y7 : ((23) : Int32).toInt = 23 := (by decide); have y8 : ((99) : Int32).toInt = 99 := (by decide); have y9 : ((400) : Int32).toInt = 400 := (by decide); omega, hJ _ _ _⟩
                        · refine ar_ldA rfl rfl ?_
                          refine ar_ldI rfl rfl ?_
                          refine ar_inl (mc := 0) (ms := 0) rfl (rcv_of (hr.at 69 (by decide) (by decide) rfl)) (Nat.le_of_ble_eq_true rfl) (Nat.le_of_ble_eq_true rfl) (by omega) (by omega) ?_
                          refine ac_ink [some (.inr (.inr (some 69))), some (.inl _)] mt_233 (Nat.le_of_ble_eq_true rfl) rfl ?_
                          refine ar_ldI rfl rfl ?_
                          refine ar_push rfl ?_
                          refine ar_ldA rfl rfl ?_
                          refine ar_get rfl (hr.at 69 (by decide) (by decide) rfl) rfl ?_
                          refine ar_push rfl ?_
                          refine ar_bink (z := (-1)) rfl (by decide) ?_
                          refine ar_callv rfl rfl (Nat.le_of_ble_eq_true rfl) (Nat.le_of_ble_eq_true rfl) rfl (sp_in _ _ _ _ _) ?_
                          refine ar_ret rfl (bi_ret _) ?_
                          show aRun _ (aCall Mt _) _ 128 (_, [_], _, _, _)
                          refine ar_if1f rfl (bi_n0f (wi_n1 _)) ?_
                          refine ar_push rfl ?_
                          refine ar_ret rfl rfl ?_
                          exact ⟨rfl, hJ _ _ _⟩
                    · refine ar_ldI rfl rfl ?_
                      refine ar_push rfl ?_
                      refine ar_if2 rfl (fun c126 => ?_) (fun c126 => ?_)
                      · refine ar_push rfl ?_
                        refine ar_ret rfl rfl ?_
                        show aRun _ (aCall Mt _) _ 105 (_, [_], _, _, _)
                        refine ar_if1t rfl (by decide) ?_
                        refine ar_ldI rfl rfl ?_
                        refine ar_push rfl ?_
                        refine ar_if2 rfl (fun c127 => ?_) (fun c127 => ?_)
                        · refine ar_ldA rfl rfl ?_
                          refine ar_get rfl (hr.at 69 (by decide) (by decide) rfl) rfl ?_
                          refine ar_push rfl ?_
                          refine ar_if2t rfl (by decide) ?_
                          refine ar_ldA rfl rfl ?_
                          refine ar_ldI rfl rfl ?_
                          refine ar_ldI rfl rfl ?_
                          refine ar_ldA rfl rfl ?_
                          refine ar_get rfl (hr.at 69 (by decide) (by decide) rfl) rfl ?_
                          refine ar_ldA rfl rfl ?_
                          refine ar_get rfl (hr.at 69 (by decide) (by decide) rfl) rfl ?_
                          refine ar_ldA rfl rfl ?_
                          refine ar_get rfl (hr.at 69 (by decide) (by decide) rfl) rfl ?_
                          refine ar_ldI rfl rfl ?_
                          refine ar_push rfl ?_
                          refine ar_if2f rfl (eq_t c103) ?_
                          refine ar_push rfl ?_
                          refine ar_go rfl ?_
                          refine ar_ldI rfl rfl ?_
                          refine ar_ldI rfl rfl ?_
                          refine ar_inl (mc := 0) (ms := 0) rfl (rcv_of (hr.at 69 (by decide) (by decide) rfl)) (Nat.le_of_ble_eq_true rfl) (Nat.le_of_ble_eq_true rfl) (by omega) (by omega) ?_
                          refine ac_ink [some (.inr (.inr (some 69))), some (.inl _), some (.inl _), some (.inl 0), some (.inl 0), some (.inl 0), some (.inl (-1)), some (.inl _), some (.inl _)] mt_238 (Nat.le_of_ble_eq_true rfl) rfl ?_
                          refine ar_ldA rfl rfl ?_
                          refine ar_get rfl (hr.at 69 (by decide) (by decide) rfl) rfl ?_
                          refine ar_ldA rfl rfl ?_
                          refine ar_get rfl (hr.at 69 (by decide) (by decide) rfl) rfl ?_
                          refine ar_ldI rfl rfl ?_
                          refine ar_ast rfl (hr.at 96 (by decide) (by decide) rfl) (by decide) (Nat.le_of_ble_eq_true rfl) ?_
                          refine ar_ldA rfl rfl ?_
                          refine ar_get rfl (hs_ne (by decide) (hr.at 69 (by decide) (by decide) rfl)) rfl ?_
                          refine ar_ldA rfl rfl ?_
                          refine ar_get rfl (hs_ne (by decide) (hr.at 69 (by decide) (by decide) rfl)) rfl ?_
                          refine ar_ldI rfl rfl ?_
                          refine ar_ast rfl (hs_ne (by decide) (hr.at 97 (by decide) (by decide) rfl)) (by decide) (Nat.le_of_ble_eq_true rfl) ?_
                          refine ar_ldA rfl rfl ?_
                          refine ar_get rfl (hs_ne (by decide) (hs_ne (by decide) (hr.at 69 (by decide) (by decide) rfl))) rfl ?_
                          refine ar_ldA rfl rfl ?_
                          refine ar_get rfl (hs_ne (by decide) (hs_ne (by decide) (hr.at 69 (by decide) (by decide) rfl))) rfl ?_
                          refine ar_ldI rfl rfl ?_
                          refine ar_ast rfl (hs_ne (by decide) (hs_ne (by decide) (hr.at 98 (by decide) (by decide) rfl))) (by decide) (Nat.le_of_ble_eq_true rfl) ?_
                          refine ar_ldA rfl rfl ?_
                          refine ar_get rfl (hs_ne (by decide) (hs_ne (by decide) (hs_ne (by decide) (hr.at 69 (by decide) (by decide) rfl)))) rfl ?_
                          refine ar_ldA rfl rfl ?_
                          refine ar_get rfl (hs_ne (by decide) (hs_ne (by decide) (hs_ne (by decide) (hr.at 69 (by decide) (by decide) rfl)))) rfl ?_
                          refine ar_ldI rfl rfl ?_
                          refine ar_ast rfl (hs_ne (by decide) (hs_ne (by decide) (hs_ne (by decide) (hr.at 99 (by decide) (by decide) rfl)))) (by decide) (Nat.le_of_ble_eq_true rfl) ?_
                          refine ar_ldA rfl rfl ?_
                          refine ar_get rfl (hs_ne (by decide) (hs_ne (by decide) (hs_ne (by decide) (hs_ne (by decide) (hr.at 69 (by decide) (by decide) rfl))))) rfl ?_
                          refine ar_ldA rfl rfl ?_
                          refine ar_get rfl (hs_ne (by decide) (hs_ne (by decide) (hs_ne (by decide) (hs_ne (by decide) (hr.at 69 (by decide) (by decide) rfl))))) rfl ?_
                          refine ar_ldI rfl rfl ?_
                          refine ar_ast rfl (hs_ne (by decide) (hs_ne (by decide) (hs_ne (by decide) (hs_ne (by decide) (hr.at 100 (by decide) (by decide) rfl))))) (by decide) (Nat.le_of_ble_eq_true rfl) ?_
                          refine ar_ldA rfl rfl ?_
                          refine ar_get rfl (hs_ne (by decide) (hs_ne (by decide) (hs_ne (by decide) (hs_ne (by decide) (hs_ne (by decide) (hr.at 69 (by decide) (by decide) rfl)))))) rfl ?_
                          refine ar_ldA rfl rfl ?_
                          refine ar_get rfl (hs_ne (by decide) (hs_ne (by decide) (hs_ne (by decide) (hs_ne (by decide) (hs_ne (by decide) (hr.at 69 (by decide) (by decide) rfl)))))) rfl ?_
                          refine ar_ldI rfl rfl ?_
                          refine ar_ast rfl (hs_ne (by decide) (hs_ne (by decide) (hs_ne (by decide) (hs_ne (by decide) (hs_ne (by decide) (hr.at 101 (by decide) (by decide) rfl)))))) (by decide) (Nat.le_of_ble_eq_true rfl) ?_
                          refine ar_ldA rfl rfl ?_
                          refine ar_get rfl (hs_ne (by decide) (hs_ne (by decide) (hs_ne (by decide) (hs_ne (by decide) (hs_ne (by decide) (hs_ne (by decide) (hr.at 69 (by decide) (by decide) rfl))))))) rfl ?_
                          refine ar_ldA rfl rfl ?_
                          refine ar_get rfl (hs_ne (by decide) (hs_ne (by decide) (hs_ne (by decide) (hs_ne (by decide) (hs_ne (by decide) (hs_ne (by decide) (hr.at 69 (by decide) (by decide) rfl))))))) rfl ?_
                          refine ar_ldI rfl rfl ?_
                          refine ar_ast rfl (hs_ne (by decide) (hs_ne (by decide) (hs_ne (by decide) (hs_ne (by decide) (hs_ne (by decide) (hs_ne (by decide) (hr.at 102 (by decide) (by decide) rfl))))))) (by decide) (Nat.le_of_ble_eq_true rfl) ?_
                          refine ar_ldA rfl rfl ?_
                          refine ar_get rfl (hs_ne (by decide) (hs_ne (by decide) (hs_ne (by decide) (hs_ne (by decide) (hs_ne (by decide) (hs_ne (by decide) (hs_ne (by decide) (hr.at 69 (by decide) (by decide) rfl)))))))) rfl ?_
                          refine ar_ldA rfl rfl ?_
                          refine ar_get rfl (hs_ne (by decide) (hs_ne (by decide) (hs_ne (by decide) (hs_ne (by decide) (hs_ne (by decide) (hs_ne (by decide) (hs_ne (by decide) (hr.at 69 (by decide) (by decide) rfl)))))))) rfl ?_
                          refine ar_ldI rfl rfl ?_
                          refine ar_inl (mc := 0) (ms := 0) rfl rfl (Nat.le_of_ble_eq_true rfl) (Nat.le_of_ble_eq_true rfl) (by omega) (by omega) ?_
                          refine ac_ink [some (.inl _)] mt_235 (Nat.le_of_ble_eq_true rfl) rfl ?_
                          refine ar_ldI rfl rfl ?_
                          refine ar_push rfl ?_
                          refine ar_if2f rfl c105 ?_
                          refine ar_ldI rfl rfl ?_
                          refine ar_push rfl ?_
                          refine ar_if2f rfl (eq_t (ne_f c114)) ?_
                          refine ar_push rfl ?_
                          refine ar_go rfl ?_
                          refine ar_ret rfl rfl ?_
                          show aRun _ (aCall Mt _) _ 86 (_, [_, _, _], _, _, _)
                          refine ar_if1t rfl (by decide) ?_
                          refine ar_ldI rfl rfl ?_
                          refine ar_go rfl ?_
                          refine ar_ast rfl (hs_ne (by decide) (hs_ne (by decide) (hs_ne (by decide) (hs_ne (by decide) (hs_ne (by decide) (hs_ne (by decide) (hs_ne (by decide) (hr.at 103 (by decide) (by decide) rfl)))))))) (by decide) (Nat.le_of_ble_eq_true rfl) ?_
                          refine ar_ldA rfl rfl ?_
                          refine ar_dup rfl rfl ?_
                          refine ar_get rfl (hs_ne (by decide) (hs_ne (by decide) (hs_ne (by decide) (hs_ne (by decide) (hs_ne (by decide) (hs_ne (by decide) (hs_ne (by decide) (hs_ne (by decide) (hr.at 69 (by decide) (by decide) rfl))))))))) rfl ?_
                          refine ar_push rfl ?_
                          refine ar_bink (z := 1) rfl (by decide) ?_
                          refine ar_put rfl (hs_ne (by decide) (hs_ne (by decide) (hs_ne (by decide) (hs_ne (by decide) (hs_ne (by decide) (hs_ne (by decide) (hs_ne (by decide) (hs_ne (by decide) (hr.at 69 (by decide) (by decide) rfl))))))))) (Nat.le_of_ble_eq_true rfl) rfl ?_
                          refine ar_ldA rfl rfl ?_
                          refine ar_get rfl (hs_eq (hs_ne (by decide) (hs_ne (by decide) (hs_ne (by decide) (hs_ne (by decide) (hs_ne (by decide) (hs_ne (by decide) (hs_ne (by decide) (hs_ne (by decide) (hr.at 69 (by decide) (by decide) rfl)))))))))) rfl ?_
                          refine ar_push rfl ?_
                          refine ar_bink (z := 0) rfl (by decide) ?_
                          refine ar_ret rfl rfl ?_
                          show aRun _ (aCall Mt _) _ 181 (_, [_], _, _, _)
                          refine ar_ret rfl rfl ?_
                          exact ⟨by exfalso; have z0 := (lt_no h0); have z1 := (lt_no h8); have z2 := (wi_to c101); have z3 := (wi_to c102); have z4 := (eq_to c103); have z5 := (wi_to c104); have z6 := (eq_no c105); have z7 := (eq_to (ne_f c114)); have z8 := (wi_to c122); have z9 := (eq_no c123); have z10 := (eq_no (ne_t c126)); have z11 := (eq_no (ne_t c127)); have z12 := (kd_nn h0); have z13 := (rg_nn h0); have y0 : ((0) : Int32).toInt = 0 := (by decide); have y1 : ((1) : Int32).toInt = 1 := (by decide); have y2 : ((2) : Int32).toInt = 2 := (by decide); have y3 : ((3) : Int32).toInt = 3 := (by decide); have y4 : ((6) : Int32).toInt = 6 := (by decide); have y5 : ((7) : Int32).toInt = 7 := (by decide); have y6 : ((8) : Int32).toInt = 8 := (by decide); have y7 : ((23) : Int32).toInt = 23 := (by decide); have y8 : ((99) : Int32).toInt = 99 := (by decide); have y9 : ((400) : Int32).toInt = 400 := (by decide); omega, hJ _ _ _⟩
                        · refine ar_ldA rfl rfl ?_
                          refine ar_ldI rfl rfl ?_
                          refine ar_inl (mc := 0) (ms := 0) rfl (rcv_of (hr.at 69 (by decide) (by decide) rfl)) (Nat.le_of_ble_eq_true rfl) (Nat.le_of_ble_eq_true rfl) (by omega) (by omega) ?_
                          refine ac_ink [some (.inr (.inr (some 69))), some (.inl _)] mt_233 (Nat.le_of_ble_eq_true rfl) rfl ?_
                          refine ar_ldI rfl rfl ?_
                          refine ar_push rfl ?_
                          refine ar_ldA rfl rfl ?_
                          refine ar_get rfl (hr.at 69 (by decide) (by decide) rfl) rfl ?_
                          refine ar_push rfl ?_
                          refine ar_bink (z := (-1)) rfl (by decide) ?_
                          refine ar_callv rfl rfl (Nat.le_of_ble_eq_true rfl) (Nat.le_of_ble_eq_true rfl) rfl (sp_in _ _ _ _ _) ?_
                          refine ar_ret rfl (bi_ret _) ?_
                          show aRun _ (aCall Mt _) _ 128 (_, [_], _, _, _)
                          refine ar_if1f rfl (bi_n0f (wi_n1 _)) ?_
                          refine ar_push rfl ?_
                          refine ar_ret rfl rfl ?_
                          exact ⟨rfl, hJ _ _ _⟩
                      · refine ar_push rfl ?_
                        refine ar_go rfl ?_
                        refine ar_ret rfl rfl ?_
                        show aRun _ (aCall Mt _) _ 105 (_, [_], _, _, _)
                        refine ar_if1f rfl (by decide) ?_
                        refine ar_ldI rfl rfl ?_
                        refine ar_push rfl ?_
                        refine ar_push rfl ?_
                        refine ar_callv rfl rfl (Nat.le_of_ble_eq_true rfl) (Nat.le_of_ble_eq_true rfl) rfl (sp_in _ _ _ _ _) ?_
                        refine ar_eqB rfl (fun c128 => ?_) (fun c128 => ?_)
                        · refine ar_push rfl ?_
                          refine ar_ret rfl rfl ?_
                          exact ⟨rfl, hJ _ _ _⟩
                        · refine ar_ldI rfl rfl ?_
                          refine ar_push rfl ?_
                          refine ar_if2 rfl (fun c129 => ?_) (fun c129 => ?_)
                          · refine ar_ldA rfl rfl ?_
                            refine ar_get rfl (hr.at 69 (by decide) (by decide) rfl) rfl ?_
                            refine ar_push rfl ?_
                            refine ar_if2t rfl (by decide) ?_
                            refine ar_ldA rfl rfl ?_
                            refine ar_ldI rfl rfl ?_
                            refine ar_ldI rfl rfl ?_
                            refine ar_ldA rfl rfl ?_
                            refine ar_get rfl (hr.at 69 (by decide) (by decide) rfl) rfl ?_
                            refine ar_ldA rfl rfl ?_
                            refine ar_get rfl (hr.at 69 (by decide) (by decide) rfl) rfl ?_
                            refine ar_ldA rfl rfl ?_
                            refine ar_get rfl (hr.at 69 (by decide) (by decide) rfl) rfl ?_
                            refine ar_ldI rfl rfl ?_
                            refine ar_push rfl ?_
                            refine ar_if2f rfl (eq_t c103) ?_
                            refine ar_push rfl ?_
                            refine ar_go rfl ?_
                            refine ar_ldI rfl rfl ?_
                            refine ar_ldI rfl rfl ?_
                            refine ar_inl (mc := 0) (ms := 0) rfl (rcv_of (hr.at 69 (by decide) (by decide) rfl)) (Nat.le_of_ble_eq_true rfl) (Nat.le_of_ble_eq_true rfl) (by omega) (by omega) ?_
                            refine ac_ink [some (.inr (.inr (some 69))), some (.inl _), some (.inl _), some (.inl 0), some (.inl 0), some (.inl 0), some (.inl (-1)), some (.inl _), some (.inl _)] mt_238 (Nat.le_of_ble_eq_true rfl) rfl ?_
                            refine ar_ldA rfl rfl ?_
                            refine ar_get rfl (hr.at 69 (by decide) (by decide) rfl) rfl ?_
                            refine ar_ldA rfl rfl ?_
                            refine ar_get rfl (hr.at 69 (by decide) (by decide) rfl) rfl ?_
                            refine ar_ldI rfl rfl ?_
                            refine ar_ast rfl (hr.at 96 (by decide) (by decide) rfl) (by decide) (Nat.le_of_ble_eq_true rfl) ?_
                            refine ar_ldA rfl rfl ?_
                            refine ar_get rfl (hs_ne (by decide) (hr.at 69 (by decide) (by decide) rfl)) rfl ?_
                            refine ar_ldA rfl rfl ?_
                            refine ar_get rfl (hs_ne (by decide) (hr.at 69 (by decide) (by decide) rfl)) rfl ?_
                            refine ar_ldI rfl rfl ?_
                            refine ar_ast rfl (hs_ne (by decide) (hr.at 97 (by decide) (by decide) rfl)) (by decide) (Nat.le_of_ble_eq_true rfl) ?_
                            refine ar_ldA rfl rfl ?_
                            refine ar_get rfl (hs_ne (by decide) (hs_ne (by decide) (hr.at 69 (by decide) (by decide) rfl))) rfl ?_
                            refine ar_ldA rfl rfl ?_
                            refine ar_get rfl (hs_ne (by decide) (hs_ne (by decide) (hr.at 69 (by decide) (by decide) rfl))) rfl ?_
                            refine ar_ldI rfl rfl ?_
                            refine ar_ast rfl (hs_ne (by decide) (hs_ne (by decide) (hr.at 98 (by decide) (by decide) rfl))) (by decide) (Nat.le_of_ble_eq_true rfl) ?_
                            refine ar_ldA rfl rfl ?_
                            refine ar_get rfl (hs_ne (by decide) (hs_ne (by decide) (hs_ne (by decide) (hr.at 69 (by decide) (by decide) rfl)))) rfl ?_
                            refine ar_ldA rfl rfl ?_
                            refine ar_get rfl (hs_ne (by decide) (hs_ne (by decide) (hs_ne (by decide) (hr.at 69 (by decide) (by decide) rfl)))) rfl ?_
                            refine ar_ldI rfl rfl ?_
                            refine ar_ast rfl (hs_ne (by decide) (hs_ne (by decide) (hs_ne (by decide) (hr.at 99 (by decide) (by decide) rfl)))) (by decide) (Nat.le_of_ble_eq_true rfl) ?_
                            refine ar_ldA rfl rfl ?_
                            refine ar_get rfl (hs_ne (by decide) (hs_ne (by decide) (hs_ne (by decide) (hs_ne (by decide) (hr.at 69 (by decide) (by decide) rfl))))) rfl ?_
                            refine ar_ldA rfl rfl ?_
                            refine ar_get rfl (hs_ne (by decide) (hs_ne (by decide) (hs_ne (by decide) (hs_ne (by decide) (hr.at 69 (by decide) (by decide) rfl))))) rfl ?_
                            refine ar_ldI rfl rfl ?_
                            refine ar_ast rfl (hs_ne (by decide) (hs_ne (by decide) (hs_ne (by decide) (hs_ne (by decide) (hr.at 100 (by decide) (by decide) rfl))))) (by decide) (Nat.le_of_ble_eq_true rfl) ?_
                            refine ar_ldA rfl rfl ?_
                            refine ar_get rfl (hs_ne (by decide) (hs_ne (by decide) (hs_ne (by decide) (hs_ne (by decide) (hs_ne (by decide) (hr.at 69 (by decide) (by decide) rfl)))))) rfl ?_
                            refine ar_ldA rfl rfl ?_
                            refine ar_get rfl (hs_ne (by decide) (hs_ne (by decide) (hs_ne (by decide) (hs_ne (by decide) (hs_ne (by decide) (hr.at 69 (by decide) (by decide) rfl)))))) rfl ?_
                            refine ar_ldI rfl rfl ?_
                            refine ar_ast rfl (hs_ne (by decide) (hs_ne (by decide) (hs_ne (by decide) (hs_ne (by decide) (hs_ne (by decide) (hr.at 101 (by decide) (by decide) rfl)))))) (by decide) (Nat.le_of_ble_eq_true rfl) ?_
                            refine ar_ldA rfl rfl ?_
                            refine ar_get rfl (hs_ne (by decide) (hs_ne (by decide) (hs_ne (by decide) (hs_ne (by decide) (hs_ne (by decide) (hs_ne (by decide) (hr.at 69 (by decide) (by decide) rfl))))))) rfl ?_
                            refine ar_ldA rfl rfl ?_
                            refine ar_get rfl (hs_ne (by decide) (hs_ne (by decide) (hs_ne (by decide) (hs_ne (by decide) (hs_ne (by decide) (hs_ne (by decide) (hr.at 69 (by decide) (by decide) rfl))))))) rfl ?_
                            refine ar_ldI rfl rfl ?_
                            refine ar_ast rfl (hs_ne (by decide) (hs_ne (by decide) (hs_ne (by decide) (hs_ne (by decide) (hs_ne (by decide) (hs_ne (by decide) (hr.at 102 (by decide) (by decide) rfl))))))) (by decide) (Nat.le_of_ble_eq_true rfl) ?_
                            refine ar_ldA rfl rfl ?_
                            refine ar_get rfl (hs_ne (by decide) (hs_ne (by decide) (hs_ne (by decide) (hs_ne (by decide) (hs_ne (by decide) (hs_ne (by decide) (hs_ne (by decide) (hr.at 69 (by decide) (by decide) rfl)))))))) rfl ?_
                            refine ar_ldA rfl rfl ?_
                            refine ar_get rfl (hs_ne (by decide) (hs_ne (by decide) (hs_ne (by decide) (hs_ne (by decide) (hs_ne (by decide) (hs_ne (by decide) (hs_ne (by decide) (hr.at 69 (by decide) (by decide) rfl)))))))) rfl ?_
                            refine ar_ldI rfl rfl ?_
                            refine ar_inl (mc := 0) (ms := 0) rfl rfl (Nat.le_of_ble_eq_true rfl) (Nat.le_of_ble_eq_true rfl) (by omega) (by omega) ?_
                            refine ac_ink [some (.inl _)] mt_235 (Nat.le_of_ble_eq_true rfl) rfl ?_
                            refine ar_ldI rfl rfl ?_
                            refine ar_push rfl ?_
                            refine ar_if2f rfl c105 ?_
                            refine ar_ldI rfl rfl ?_
                            refine ar_push rfl ?_
                            refine ar_if2f rfl (eq_t (ne_f c114)) ?_
                            refine ar_push rfl ?_
                            refine ar_go rfl ?_
                            refine ar_ret rfl rfl ?_
                            show aRun _ (aCall Mt _) _ 86 (_, [_, _, _], _, _, _)
                            refine ar_if1t rfl (by decide) ?_
                            refine ar_ldI rfl rfl ?_
                            refine ar_go rfl ?_
                            refine ar_ast rfl (hs_ne (by decide) (hs_ne (by decide) (hs_ne (by decide) (hs_ne (by decide) (hs_ne (by decide) (hs_ne (by decide) (hs_ne (by decide) (hr.at 103 (by decide) (by decide) rfl)))))))) (by decide) (Nat.le_of_ble_eq_true rfl) ?_
                            refine ar_ldA rfl rfl ?_
                            refine ar_dup rfl rfl ?_
                            refine ar_get rfl (hs_ne (by decide) (hs_ne (by decide) (hs_ne (by decide) (hs_ne (by decide) (hs_ne (by decide) (hs_ne (by decide) (hs_ne (by decide) (hs_ne (by decide) (hr.at 69 (by decide) (by decide) rfl))))))))) rfl ?_
                            refine ar_push rfl ?_
                            refine ar_bink (z := 1) rfl (by decide) ?_
                            refine ar_put rfl (hs_ne (by decide) (hs_ne (by decide) (hs_ne (by decide) (hs_ne (by decide) (hs_ne (by decide) (hs_ne (by decide) (hs_ne (by decide) (hs_ne (by decide) (hr.at 69 (by decide) (by decide) rfl))))))))) (Nat.le_of_ble_eq_true rfl) rfl ?_
                            refine ar_ldA rfl rfl ?_
                            refine ar_get rfl (hs_eq (hs_ne (by decide) (hs_ne (by decide) (hs_ne (by decide) (hs_ne (by decide) (hs_ne (by decide) (hs_ne (by decide) (hs_ne (by decide) (hs_ne (by decide) (hr.at 69 (by decide) (by decide) rfl)))))))))) rfl ?_
                            refine ar_push rfl ?_
                            refine ar_bink (z := 0) rfl (by decide) ?_
                            refine ar_ret rfl rfl ?_
                            show aRun _ (aCall Mt _) _ 181 (_, [_], _, _, _)
                            refine ar_ret rfl rfl ?_
                            exact ⟨by exfalso; have z0 := (lt_no h0); have z1 := (lt_no h8); have z2 := (wi_to c101); have z3 := (wi_to c102); have z4 := (eq_to c103); have z5 := (wi_to c104); have z6 := (eq_no c105); have z7 := (eq_to (ne_f c114)); have z8 := (wi_to c122); have z9 := (eq_no c123); have z10 := (eq_to (ne_f c126)); have z11 := (wi_to c128); have z12 := (eq_no (ne_t c129)); have z13 := (kd_nn h0); have z14 := (rg_nn h0); have y0 : ((0) : Int32).toInt = 0 := (by decide); have y1 : ((1) : Int32).toInt = 1 := (by decide); have y2 : ((2) : Int32).toInt = 2 := (by decide); have y3 : ((3) : Int32).toInt = 3 := (by decide); have y4 : ((6) : Int32).toInt = 6 := (by decide); have y5 : ((7) : Int32).toInt = 7 := (by decide); have y6 : ((8) : Int32).toInt = 8 := (by decide); have y7 : ((23) : Int32).toInt = 23 := (by decide); have y8 : ((99) : Int32).toInt = 99 := (by decide); have y9 : ((400) : Int32).toInt = 400 := (by decide); omega, hJ _ _ _⟩
                          · refine ar_ldA rfl rfl ?_
                            refine ar_ldI rfl rfl ?_
                            refine ar_inl (mc := 0) (ms := 0) rfl (rcv_of (hr.at 69 (by decide) (by decide) rfl)) (Nat.le_of_ble_eq_true rfl) (Nat.le_of_ble_eq_true rfl) (by omega) (by omega) ?_
                            refine ac_ink [some (.inr (.inr (some 69))), some (.inl _)] mt_233 (Nat.le_of_ble_eq_true rfl) rfl ?_
                            refine ar_ldI rfl rfl ?_
                            refine ar_push rfl ?_
                            refine ar_ldA rfl rfl ?_
                            refine ar_get rfl (hr.at 69 (by decide) (by decide) rfl) rfl ?_
                            refine ar_push rfl ?_
                            refine ar_bink (z := (-1)) rfl (by decide) ?_
                            refine ar_callv rfl rfl (Nat.le_of_ble_eq_true rfl) (Nat.le_of_ble_eq_true rfl) rfl (sp_in _ _ _ _ _) ?_
                            refine ar_ret rfl (bi_ret _) ?_
                            show aRun _ (aCall Mt _) _ 128 (_, [_], _, _, _)
                            refine ar_if1f rfl (bi_n0f (wi_n1 _)) ?_
                            refine ar_push rfl ?_
                            refine ar_ret rfl rfl ?_
                            exact ⟨rfl, hJ _ _ _⟩
            · refine ar_push rfl ?_
              refine ar_ret rfl rfl ?_
              exact ⟨rfl, hJ _ _ _⟩
          · refine ar_ldI rfl rfl ?_
            refine ar_push rfl ?_
            refine ar_if2 rfl (fun c130 => ?_) (fun c130 => ?_)
            · refine ar_push rfl ?_
              refine ar_ret rfl rfl ?_
              exact ⟨rfl, hJ _ _ _⟩
            · refine ar_ldA rfl rfl ?_
              refine ar_get rfl (hr.at 69 (by decide) (by decide) rfl) rfl ?_
              refine ar_ldI rfl rfl ?_
              refine ar_ald rfl (hr.at 91 (by decide) (by decide) rfl) (rm_ix h0 (le_f c130)).1 (rep_get (rm_ix h0 (le_f c130)).2) ?_
              refine ar_if1t rfl (by decide) ?_
              refine ar_push rfl ?_
              refine ar_ret rfl rfl ?_
              exact ⟨rfl, hJ _ _ _⟩
    | true =>
      have w := lt_to h8
      have r : ((8) : Int32).toInt = 8 := by decide
      have r7 : ((7) : Int32).toInt = 7 := by decide
      have l0 : ((0) : Int32).toInt = 0 := by decide
      have q := kd_nn h0
      have hw : wi ((x1 / 100) - (x1 / 100) / 100 * 100) 0 7 = true := by
        unfold wi
        rw [decide_eq_true (Int32.le_iff_toInt_le.mpr (by omega)), decide_eq_true (Int32.le_iff_toInt_le.mpr (by omega))]
        rfl
      cases hp : wi (x1 / 10000) 0 8 with
      | false => exact p1_10_o x1 x2 x3 h0 h8 hw hp J hJ kc ks hkc hks
      | true =>
        cases hs : wi x2 0 400 with
        | false => exact p1_10_s x1 x2 x3 h0 h8 hw hp hs J hJ kc ks hkc hks
        | true =>
          cases h9 : decide ((x1 - x1 / 100 * 100) = 99) with
          | false => exact p1_10_r x1 x2 x3 h0 h8 hw hp hs h9 J hJ kc ks hkc hks
          | true =>
            rcases (show ((x1 / 100) - (x1 / 100) / 100 * 100).toInt = 0 ∨ ((x1 / 100) - (x1 / 100) / 100 * 100).toInt = 1 ∨ ((x1 / 100) - (x1 / 100) / 100 * 100).toInt = 2 ∨ ((x1 / 100) - (x1 / 100) / 100 * 100).toInt = 3 ∨ ((x1 / 100) - (x1 / 100) / 100 * 100).toInt = 4 ∨ ((x1 / 100) - (x1 / 100) / 100 * 100).toInt = 5 ∨ ((x1 / 100) - (x1 / 100) / 100 * 100).toInt = 6 ∨ ((x1 / 100) - (x1 / 100) / 100 * 100).toInt = 7 by omega) with n | n | n | n | n | n | n | n
            · exact p1_10_0_g x1 x2 x3 h0 (en_of n (show ((0) : Int32).toInt = 0 by decide)) hp hs h9 J hJ kc ks hkc hks
            · exact p1_10_1_g x1 x2 x3 h0 (en_of n (show ((1) : Int32).toInt = 1 by decide)) hp hs h9 J hJ kc ks hkc hks
            · exact p1_10_2_g x1 x2 x3 h0 (en_of n (show ((2) : Int32).toInt = 2 by decide)) hp hs h9 J hJ kc ks hkc hks
            · exact p1_10_3_g x1 x2 x3 h0 (en_of n (show ((3) : Int32).toInt = 3 by decide)) hp hs h9 J hJ kc ks hkc hks
            · exact p1_10_4_g x1 x2 x3 h0 (en_of n (show ((4) : Int32).toInt = 4 by decide)) hp hs h9 J hJ kc ks hkc hks
            · exact p1_10_5_g x1 x2 x3 h0 (en_of n (show ((5) : Int32).toInt = 5 by decide)) hp hs h9 J hJ kc ks hkc hks
            · exact p1_10_6_g x1 x2 x3 h0 (en_of n (show ((6) : Int32).toInt = 6 by decide)) hp hs h9 J hJ kc ks hkc hks
            · exact p1_10_7_g x1 x2 x3 h0 (en_of n (show ((7) : Int32).toInt = 7 by decide)) hp hs h9 J hJ kc ks hkc hks
end P1C
