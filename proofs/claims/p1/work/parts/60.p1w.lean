/-! word on fresh objects, the mark's kind 7, printed by program -/
section P1C
set_option maxRecDepth 20000 in
set_option maxHeartbeats 8000000 in
theorem p1_10_7_g (x1 x2 x3 : Int32) (h0 : decide (x1 < 0) = false) (hk : ((x1 / 100) - (x1 / 100) / 100 * 100) = 7) (hp : wi (x1 / 10000) 0 8 = true) (hs : wi x2 0 400 = true) (h9 : decide ((x1 - x1 / 100 * 100) = 99) = true) (J : aH → Nat → Nat → Prop) (hJ : ∀ h a b, J h a b) (kc ks : Nat) (hkc : 1000 ≤ kc) (hks : 100000 ≤ ks) : aPairI 0 69 134 239 [.inl x1, .inl x2, .inl x3] J hF kc ks := by
  refine ⟨1, 13, _, by omega, by omega, rfl, ?_⟩
  refine ac_ink [some (.inr (.inr (some 0))), some (.inl _), some (.inl _), some (.inl _), none, none, none, none] mt_134 (Nat.le_of_ble_eq_true rfl) rfl ?_
  refine ar_ldI rfl rfl ?_
  refine ar_push rfl ?_
  refine ar_div rfl (by decide) ?_
  refine ar_svIk [some (.inr (.inr (some 0))), some (.inl _), some (.inl _), some (.inl _), some (.inl _), none, none, none] rfl rfl ?_
  refine ar_ldI rfl rfl ?_
  refine ar_push rfl ?_
  refine ar_div rfl (by decide) ?_
  refine ar_push rfl ?_
  refine ar_div rfl (by decide) ?_
  rw [hk]
  refine ar_svIk [some (.inr (.inr (some 0))), some (.inl _), some (.inl _), some (.inl _), some (.inl _), some (.inl 7), none, none] rfl rfl ?_
  refine ar_ldI rfl rfl ?_
  refine ar_push rfl ?_
  refine ar_div rfl (by decide) ?_
  refine ar_svIk [some (.inr (.inr (some 0))), some (.inl _), some (.inl _), some (.inl _), some (.inl _), some (.inl 7), some (.inl _), none] rfl rfl ?_
  refine ar_ldI rfl rfl ?_
  refine ar_if1f rfl h0 ?_
  refine ar_ldI rfl rfl ?_
  refine ar_inl (mc := 0) (ms := 0) rfl rfl (Nat.le_of_ble_eq_true rfl) (Nat.le_of_ble_eq_true rfl) (by omega) (by omega) ?_
  refine ac_ink [some (.inl _)] mt_175 (Nat.le_of_ble_eq_true rfl) rfl ?_
  refine ar_ldI rfl rfl ?_
  refine ar_push rfl ?_
  refine ar_push rfl ?_
  refine ar_callv rfl rfl (Nat.le_of_ble_eq_true rfl) (Nat.le_of_ble_eq_true rfl) rfl (sp_within _ _ _ _ _) ?_
  refine ar_ret rfl (bi_ret _) ?_
  show aRun _ (aCall Mt _) _ 31 (_, [_], _, _, _)
  refine ar_if1f rfl (bi_e0f hp) ?_
  refine ar_ldI rfl rfl ?_
  refine ar_push rfl ?_
  refine ar_if2f rfl (by decide) ?_
  refine ar_ldI rfl rfl ?_
  refine ar_push rfl ?_
  refine ar_push rfl ?_
  refine ar_callv rfl rfl (Nat.le_of_ble_eq_true rfl) (Nat.le_of_ble_eq_true rfl) rfl (sp_within _ _ _ _ _) ?_
  refine ar_if1t rfl (bi_n0t hs) ?_
  refine ar_ldI rfl rfl ?_
  refine ar_push rfl ?_
  refine ar_if2t rfl h9 ?_
  refine ar_ldA rfl rfl ?_
  refine ar_get rfl rfl rfl ?_
  refine ar_ldI rfl rfl ?_
  refine ar_ldI rfl rfl ?_
  refine ar_inl (mc := 0) (ms := 0) rfl (rcv_of rfl) (Nat.le_of_ble_eq_true rfl) (Nat.le_of_ble_eq_true rfl) (by omega) (by omega) ?_
  refine ac_ink [some (.inr (.inr (some 15))), some (.inl 7), some (.inl _)] mt_10 (Nat.le_of_ble_eq_true rfl) rfl ?_
  refine ar_ldI rfl rfl ?_
  refine ar_tabI rfl (by decide) rfl ?_
  refine ar_ldI rfl rfl ?_
  refine ar_push rfl ?_
  refine ar_push rfl ?_
  refine ar_callv rfl rfl (Nat.le_of_ble_eq_true rfl) (Nat.le_of_ble_eq_true rfl) rfl (sp_within _ _ _ _ _) ?_
  refine ar_ret rfl (bi_ret _) ?_
  show aRun _ (aCall Mt _) _ 85 (_, [_], _, _, _)
  refine ar_neB rfl (fun c101 => ?_) (fun c101 => ?_)
  · refine ar_ldA rfl rfl ?_
    refine ar_get rfl rfl rfl ?_
    refine ar_get rfl rfl rfl ?_
    refine ar_push rfl ?_
    refine ar_if2t rfl (by decide) ?_
    refine ar_new rfl (by decide) (by decide) ?_
    refine ar_dup rfl rfl ?_
    refine ar_ldA rfl rfl ?_
    refine ar_get rfl rfl rfl ?_
    refine ar_get rfl rfl rfl ?_
    refine ar_ldI rfl rfl ?_
    refine ar_ldI rfl rfl ?_
    refine ar_ldI rfl rfl ?_
    refine ar_push rfl ?_
    refine ar_if2f rfl (eq_t h9) ?_
    refine ar_push rfl ?_
    refine ar_go rfl ?_
    refine ar_ldI rfl rfl ?_
    refine ar_inl (mc := 0) (ms := 0) rfl (rcv_of rfl) (Nat.le_of_ble_eq_true rfl) (Nat.le_of_ble_eq_true rfl) (by omega) (by omega) ?_
    refine ac_ink [some (.inr (.inr (some 114))), some (.inl 0), some (.inl 7), some (.inl _), some (.inl (-1)), some (.inl _)] mt_114 (Nat.le_of_ble_eq_true rfl) rfl ?_
    refine ar_ldA rfl rfl ?_
    refine ar_obj rfl (Nat.le_of_ble_eq_true rfl) ?_
    refine ar_ldA rfl rfl ?_
    refine ar_push rfl ?_
    refine ar_put rfl rfl (Nat.le_of_ble_eq_true rfl) rfl ?_
    refine ar_ldA rfl rfl ?_
    refine ar_push rfl ?_
    refine ar_put rfl rfl (Nat.le_of_ble_eq_true rfl) rfl ?_
    refine ar_ldA rfl rfl ?_
    refine ar_push rfl ?_
    refine ar_put rfl rfl (Nat.le_of_ble_eq_true rfl) rfl ?_
    refine ar_ldA rfl rfl ?_
    refine ar_push rfl ?_
    refine ar_put rfl rfl (Nat.le_of_ble_eq_true rfl) rfl ?_
    refine ar_ldA rfl rfl ?_
    refine ar_push rfl ?_
    refine ar_put rfl rfl (Nat.le_of_ble_eq_true rfl) rfl ?_
    refine ar_ldA rfl rfl ?_
    refine ar_push rfl ?_
    refine ar_put rfl rfl (Nat.le_of_ble_eq_true rfl) rfl ?_
    refine ar_ldA rfl rfl ?_
    refine ar_push rfl ?_
    refine ar_put rfl rfl (Nat.le_of_ble_eq_true rfl) rfl ?_
    refine ar_ldA rfl rfl ?_
    refine ar_push rfl ?_
    refine ar_put rfl rfl (Nat.le_of_ble_eq_true rfl) rfl ?_
    refine ar_ldA rfl rfl ?_
    refine ar_ldI rfl rfl ?_
    refine ar_put rfl rfl (Nat.le_of_ble_eq_true rfl) rfl ?_
    refine ar_ldA rfl rfl ?_
    refine ar_ldI rfl rfl ?_
    refine ar_put rfl rfl (Nat.le_of_ble_eq_true rfl) rfl ?_
    refine ar_ldA rfl rfl ?_
    refine ar_ldI rfl rfl ?_
    refine ar_put rfl rfl (Nat.le_of_ble_eq_true rfl) rfl ?_
    refine ar_ldA rfl rfl ?_
    refine ar_ldI rfl rfl ?_
    refine ar_put rfl rfl (Nat.le_of_ble_eq_true rfl) rfl ?_
    refine ar_ldA rfl rfl ?_
    refine ar_ldI rfl rfl ?_
    refine ar_put rfl rfl (Nat.le_of_ble_eq_true rfl) rfl ?_
    refine ar_ret0 rfl ?_
    show aRun _ (aCall Mt _) _ 138 (_, [_], _, _, _)
    refine ar_genW ((((((((((((((cFr_F.app).set (by decide)).set (by decide)).set (by decide)).set (by decide)).set (by decide)).set (by decide)).set (by decide)).set (by decide)).set (by decide)).set (by decide)).set (by decide)).set (by decide)).set (by decide)) rfl (fun g9 hb9 hg9 => ?_)
    refine ar_svAk [some (.inr (.inr (some 0))), some (.inl _), some (.inl _), some (.inl _), some (.inl _), some (.inl 7), some (.inl _), some (.inr (.inr (some 114)))] rfl rfl ?_
    refine ar_ldA rfl rfl ?_
    refine ar_ldA rfl rfl ?_
    refine ar_get rfl (hb9.at (k := 0) (by decide) rfl) rfl ?_
    refine ar_get rfl (hb9.at (k := 15) (by decide) rfl) rfl ?_
    refine ar_ldA rfl rfl ?_
    refine ar_get rfl (hb9.at (k := 0) (by decide) rfl) rfl ?_
    refine ar_get rfl (hb9.at (k := 15) (by decide) rfl) rfl ?_
    refine ar_ldA rfl rfl ?_
    refine ar_get rfl (hb9.at (k := 0) (by decide) rfl) rfl ?_
    refine ar_get rfl (hb9.at (k := 15) (by decide) rfl) rfl ?_
    refine ar_inl (mc := 0) (ms := 0) rfl (rcv_of hg9) (Nat.le_of_ble_eq_true rfl) (Nat.le_of_ble_eq_true rfl) (by omega) (by omega) ?_
    refine ac_ink [some (.inr (.inr (some 114))), some (.inl 0), some (.inl 0), some (.inl 0)] mt_115 (Nat.le_of_ble_eq_true rfl) rfl ?_
    refine ar_ldA rfl rfl ?_
    refine ar_ldI rfl rfl ?_
    refine ar_put rfl hg9 (Nat.le_of_ble_eq_true rfl) rfl ?_
    refine ar_ldA rfl rfl ?_
    refine ar_ldI rfl rfl ?_
    refine ar_put rfl (hs_eq hg9) (Nat.le_of_ble_eq_true rfl) rfl ?_
    refine ar_ldA rfl rfl ?_
    refine ar_ldI rfl rfl ?_
    refine ar_put rfl (hs_eq (hs_eq hg9)) (Nat.le_of_ble_eq_true rfl) rfl ?_
    refine ar_ret0 rfl ?_
    show aRun _ (aCall Mt _) _ 166 (_, [], _, _, _)
    refine ar_ldA rfl rfl ?_
    refine ar_get rfl (hs_ne (by decide) (hs_ne (by decide) (hs_ne (by decide) (hb9.at (k := 0) (by decide) rfl)))) rfl ?_
    refine ar_call rfl rfl (Nat.le_of_ble_eq_true rfl) (Nat.le_of_ble_eq_true rfl) (rcv_of (hs_ne (by decide) (hs_ne (by decide) (hs_ne (by decide) (hb9.at (k := 41) (by decide) rfl))))) (Nat.zero_le _) (Nat.zero_le _) (sp_fw (hs_ne (by decide) (hs_ne (by decide) (hs_ne (by decide) (hb9.at (k := 41) (by decide) rfl)))) rfl rfl (hs_ne (by decide) (hs_ne (by decide) (hs_ne (by decide) (hb9.at (k := 45) (by decide) rfl)))) (hs_ne (by decide) (hs_ne (by decide) (hs_ne (by decide) (hb9.at (k := 46) (by decide) rfl)))) (by decide) (by decide) (by decide) (by decide)) (fun v h9 q => ?_)
    obtain ⟨rfl, rfl⟩ := q
    show aRun _ (aCall Mt _) _ 173 (_, [], _, _, _)
    refine ar_ldA rfl rfl ?_
    refine ar_get rfl (hs_ne (by decide) (hs_ne (by decide) (hs_ne (by decide) (hs_ne (by decide) (hs_ne (by decide) (hb9.at (k := 0) (by decide) rfl)))))) rfl ?_
    refine ar_ldA rfl rfl ?_
    refine ar_ldI rfl rfl ?_
    refine ar_inl (mc := 0) (ms := 0) rfl (rcv_of (hs_ne (by decide) (hs_ne (by decide) (hs_ne (by decide) (hs_ne (by decide) (hs_ne (by decide) (hb9.at (k := 15) (by decide) rfl))))))) (Nat.le_of_ble_eq_true rfl) (Nat.le_of_ble_eq_true rfl) (by omega) (by omega) ?_
    refine ac_ink [some (.inr (.inr (some 15))), some (.inr (.inr (some 114))), some (.inl _), none] mt_11 (Nat.le_of_ble_eq_true rfl) rfl ?_
    refine ar_ldA rfl rfl ?_
    refine ar_get rfl (hs_ne (by decide) (hs_ne (by decide) (hs_ne (by decide) (hs_ne (by decide) (hs_ne (by decide) (hb9.at (k := 15) (by decide) rfl)))))) rfl ?_
    refine ar_push rfl ?_
    refine ar_if2t rfl (by decide) ?_
    refine ar_ldA rfl rfl ?_
    refine ar_get rfl (hs_ne (by decide) (hs_ne (by decide) (hs_eq (hs_eq (hs_eq hg9))))) rfl ?_
    refine ar_if1f rfl (by decide) ?_
    refine ar_ldA rfl rfl ?_
    refine ar_get rfl (hs_ne (by decide) (hs_ne (by decide) (hs_eq (hs_eq (hs_eq hg9))))) rfl ?_
    refine ar_push rfl ?_
    refine ar_if2f rfl (by decide) ?_
    refine ar_ldA rfl rfl ?_
    refine ar_get rfl (hs_ne (by decide) (hs_ne (by decide) (hs_eq (hs_eq (hs_eq hg9))))) rfl ?_
    refine ar_push rfl ?_
    refine ar_if2f rfl (by decide) ?_
    refine ar_ldA rfl rfl ?_
    refine ar_ldI rfl rfl ?_
    refine ar_put rfl (hs_ne (by decide) (hs_ne (by decide) (hs_eq (hs_eq (hs_eq hg9))))) (Nat.le_of_ble_eq_true rfl) rfl ?_
    refine ar_ldA rfl rfl ?_
    refine ar_get rfl (hs_eq (hs_ne (by decide) (hs_ne (by decide) (hs_eq (hs_eq (hs_eq hg9)))))) rfl ?_
    refine ar_push rfl ?_
    refine ar_if2t rfl (by decide) ?_
    refine ar_ldA rfl rfl ?_
    refine ar_get rfl (hs_ne (by decide) (hs_ne (by decide) (hs_ne (by decide) (hs_ne (by decide) (hs_ne (by decide) (hs_ne (by decide) (hb9.at (k := 15) (by decide) rfl))))))) rfl ?_
    refine ar_ldA rfl rfl ?_
    refine ar_get rfl (hs_ne (by decide) (hs_ne (by decide) (hs_ne (by decide) (hs_ne (by decide) (hs_ne (by decide) (hs_ne (by decide) (hb9.at (k := 15) (by decide) rfl))))))) rfl ?_
    refine ar_ldA rfl rfl ?_
    refine ar_astA rfl (hs_ne (by decide) (hs_ne (by decide) (hs_ne (by decide) (hs_ne (by decide) (hs_ne (by decide) (hs_ne (by decide) (hb9.at (k := 16) (by decide) rfl))))))) (hs_eq (hs_ne (by decide) (hs_ne (by decide) (hs_eq (hs_eq (hs_eq hg9)))))) (by decide) (Nat.le_of_ble_eq_true rfl) ?_
    refine ar_ldA rfl rfl ?_
    refine ar_dup rfl rfl ?_
    refine ar_get rfl (hs_ne (by decide) (hs_ne (by decide) (hs_ne (by decide) (hs_ne (by decide) (hs_ne (by decide) (hs_ne (by decide) (hs_ne (by decide) (hb9.at (k := 15) (by decide) rfl)))))))) rfl ?_
    refine ar_push rfl ?_
    refine ar_bink (z := 1) rfl (by decide) ?_
    refine ar_put rfl (hs_ne (by decide) (hs_ne (by decide) (hs_ne (by decide) (hs_ne (by decide) (hs_ne (by decide) (hs_ne (by decide) (hs_ne (by decide) (hb9.at (k := 15) (by decide) rfl)))))))) (Nat.le_of_ble_eq_true rfl) rfl ?_
    refine ar_ldA rfl rfl ?_
    refine ar_ldA rfl rfl ?_
    refine ar_inl (mc := 0) (ms := 0) rfl (rcv_of (hs_eq (hs_ne (by decide) (hs_ne (by decide) (hs_ne (by decide) (hs_ne (by decide) (hs_ne (by decide) (hs_ne (by decide) (hs_ne (by decide) (hb9.at (k := 15) (by decide) rfl)))))))))) (Nat.le_of_ble_eq_true rfl) (Nat.le_of_ble_eq_true rfl) (by omega) (by omega) ?_
    refine ac_ink [some (.inr (.inr (some 15))), some (.inr (.inr (some 114))), none, none] mt_14 (Nat.le_of_ble_eq_true rfl) rfl ?_
    refine ar_ldA rfl rfl ?_
    refine ar_get rfl (hs_ne (by decide) (hs_ne (by decide) (hs_eq (hs_ne (by decide) (hs_ne (by decide) (hs_eq (hs_eq (hs_eq hg9)))))))) rfl ?_
    refine ar_push rfl ?_
    refine ar_if2t rfl (by decide) ?_
    refine ar_ldA rfl rfl ?_
    refine ar_ldA rfl rfl ?_
    refine ar_get rfl (hs_ne (by decide) (hs_ne (by decide) (hs_eq (hs_ne (by decide) (hs_ne (by decide) (hs_eq (hs_eq (hs_eq hg9)))))))) rfl ?_
    refine ar_inl (mc := 0) (ms := 0) rfl (rcv_of (hs_eq (hs_ne (by decide) (hs_ne (by decide) (hs_ne (by decide) (hs_ne (by decide) (hs_ne (by decide) (hs_ne (by decide) (hs_ne (by decide) (hb9.at (k := 15) (by decide) rfl)))))))))) (Nat.le_of_ble_eq_true rfl) (Nat.le_of_ble_eq_true rfl) (by omega) (by omega) ?_
    refine ac_ink [some (.inr (.inr (some 15))), some (.inl (-1))] mt_9 (Nat.le_of_ble_eq_true rfl) rfl ?_
    refine ar_ldI rfl rfl ?_
    refine ar_push rfl ?_
    refine ar_push rfl ?_
    refine ar_callv rfl rfl (Nat.le_of_ble_eq_true rfl) (Nat.le_of_ble_eq_true rfl) rfl (sp_within _ _ _ _ _) ?_
    refine ar_if1t rfl (bi_e0t (by decide)) ?_
    refine ar_push rfl ?_
    refine ar_ret rfl rfl ?_
    show aRun _ (aCall Mt _) _ 17 (_, [_], _, _, _)
    refine ar_if1f rfl (by decide) ?_
    refine ar_ldA rfl rfl ?_
    refine ar_push rfl ?_
    refine ar_ldA rfl rfl ?_
    refine ar_ldA rfl rfl ?_
    refine ar_push rfl ?_
    refine ar_call rfl rfl (Nat.le_of_ble_eq_true rfl) (Nat.le_of_ble_eq_true rfl) (rcv_of (hs_eq (hs_ne (by decide) (hs_ne (by decide) (hs_ne (by decide) (hs_ne (by decide) (hs_ne (by decide) (hs_ne (by decide) (hs_ne (by decide) (hb9.at (k := 15) (by decide) rfl)))))))))) (Nat.zero_le _) (Nat.zero_le _) (sp_reck0 (hs_eq (hs_ne (by decide) (hs_ne (by decide) (hs_ne (by decide) (hs_ne (by decide) (hs_ne (by decide) (hs_ne (by decide) (hs_ne (by decide) (hb9.at (k := 15) (by decide) rfl))))))))) rfl (hs_ne (by decide) (hs_ne (by decide) (hs_ne (by decide) (hs_ne (by decide) (hs_ne (by decide) (hs_ne (by decide) (hs_ne (by decide) (hs_ne (by decide) (hb9.at (k := 19) (by decide) rfl))))))))) (hs_ne (by decide) (hs_ne (by decide) (hs_ne (by decide) (hs_ne (by decide) (hs_ne (by decide) (hs_ne (by decide) (hs_ne (by decide) (hs_ne (by decide) (hb9.at (k := 23) (by decide) rfl))))))))) (hs_ne (by decide) (hs_ne (by decide) (hs_ne (by decide) (hs_ne (by decide) (hs_ne (by decide) (hs_ne (by decide) (hs_ne (by decide) (hs_ne (by decide) (hb9.at (k := 25) (by decide) rfl))))))))) (hs_ne (by decide) (hs_ne (by decide) (hs_ne (by decide) (hs_ne (by decide) (hs_ne (by decide) (hs_ne (by decide) (hs_ne (by decide) (hs_ne (by decide) (hb9.at (k := 27) (by decide) rfl))))))))) (hs_ne (by decide) (hs_ne (by decide) (hs_ne (by decide) (hs_ne (by decide) (hs_ne (by decide) (hs_ne (by decide) (hs_ne (by decide) (hs_ne (by decide) (hb9.at (k := 29) (by decide) rfl))))))))) (hs_ne (by decide) (hs_ne (by decide) (hs_ne (by decide) (hs_ne (by decide) (hs_ne (by decide) (hs_ne (by decide) (hs_ne (by decide) (hs_ne (by decide) (hb9.at (k := 31) (by decide) rfl))))))))) (hs_ne (by decide) (hs_ne (by decide) (hs_ne (by decide) (hs_ne (by decide) (hs_ne (by decide) (hs_ne (by decide) (hs_ne (by decide) (hs_ne (by decide) (hb9.at (k := 33) (by decide) rfl))))))))) (hs_ne (by decide) (hs_ne (by decide) (hs_ne (by decide) (hs_ne (by decide) (hs_ne (by decide) (hs_ne (by decide) (hs_ne (by decide) (hs_ne (by decide) (hb9.at (k := 35) (by decide) rfl))))))))) (hs_ne (by decide) (hs_ne (by decide) (hs_ne (by decide) (hs_ne (by decide) (hs_ne (by decide) (hs_ne (by decide) (hs_ne (by decide) (hs_ne (by decide) (hb9.at (k := 37) (by decide) rfl))))))))) (hs_ne (by decide) (hs_ne (by decide) (hs_ne (by decide) (hs_ne (by decide) (hs_ne (by decide) (hs_ne (by decide) (hs_ne (by decide) (hs_ne (by decide) (hb9.at (k := 39) (by decide) rfl))))))))) (hs_ne (by decide) (hs_ne (by decide) (hs_eq (hs_ne (by decide) (hs_ne (by decide) (hs_eq (hs_eq (hs_eq hg9)))))))) rfl rfl rfl rfl hp) (fun v h9 q => ?_)
    obtain ⟨⟨u102, rfl⟩, rfl⟩ := q
    show aRun _ (aCall Mt _) _ 28 (_, [_, _, _], _, _, _)
    refine ar_push rfl ?_
    refine ar_inl (mc := 0) (ms := 0) rfl (rcv_of (hs_ne (by decide) (hs_ne (by decide) (hs_eq (hs_ne (by decide) (hs_ne (by decide) (hs_eq (hs_eq (hs_eq hg9))))))))) (Nat.le_of_ble_eq_true rfl) (Nat.le_of_ble_eq_true rfl) (by omega) (by omega) ?_
    refine ac_ink [some (.inr (.inr (some 114))), some (.inl 1), some (.inl _), some (.inl 0)] mt_118 (Nat.le_of_ble_eq_true rfl) rfl ?_
    refine ar_ldA rfl rfl ?_
    refine ar_ldI rfl rfl ?_
    refine ar_put rfl (hs_ne (by decide) (hs_ne (by decide) (hs_eq (hs_ne (by decide) (hs_ne (by decide) (hs_eq (hs_eq (hs_eq hg9)))))))) (Nat.le_of_ble_eq_true rfl) rfl ?_
    refine ar_ldA rfl rfl ?_
    refine ar_ldI rfl rfl ?_
    refine ar_put rfl (hs_eq (hs_ne (by decide) (hs_ne (by decide) (hs_eq (hs_ne (by decide) (hs_ne (by decide) (hs_eq (hs_eq (hs_eq hg9))))))))) (Nat.le_of_ble_eq_true rfl) rfl ?_
    refine ar_ldA rfl rfl ?_
    refine ar_ldI rfl rfl ?_
    refine ar_put rfl (hs_eq (hs_eq (hs_ne (by decide) (hs_ne (by decide) (hs_eq (hs_ne (by decide) (hs_ne (by decide) (hs_eq (hs_eq (hs_eq hg9)))))))))) (Nat.le_of_ble_eq_true rfl) rfl ?_
    refine ar_ret0 rfl ?_
    show aRun _ (aCall Mt _) _ 32 (_, [], _, _, _)
    refine ar_ret0 rfl ?_
    show aRun _ (aCall Mt _) _ 94 (_, [], _, _, _)
    refine ar_ldA rfl rfl ?_
    refine ar_get rfl (hs_ne (by decide) (hs_ne (by decide) (hs_ne (by decide) (hs_eq (hs_ne (by decide) (hs_ne (by decide) (hs_ne (by decide) (hs_ne (by decide) (hs_ne (by decide) (hs_ne (by decide) (hs_ne (by decide) (hb9.at (k := 15) (by decide) rfl)))))))))))) rfl ?_
    refine ar_push rfl ?_
    refine ar_bink (z := 0) rfl (by decide) ?_
    refine ar_ret rfl rfl ?_
    show aRun _ (aCall Mt _) _ 183 (_, [_], _, _, _)
    refine ar_ret rfl rfl ?_
    refine ⟨_, 0, 0, _, rfl, Nat.zero_le _, Nat.zero_le _, (hs_ne (by decide) (hs_ne (by decide) (hs_ne (by decide) (hs_ne (by decide) (hs_ne (by decide) (hs_ne (by decide) (hs_ne (by decide) (hs_ne (by decide) (hs_ne (by decide) (hs_ne (by decide) (hs_ne (by decide) (hb9.at (k := 69) (by decide) rfl)))))))))))), ?_⟩
    refine rgen (((((((((((hb9.r.sets (by decide)).sets (by decide)).sets (by decide)).sets (by decide)).sets (by decide)).sets (by decide)).sets (by decide)).sets (by decide)).sets (by decide)).sets (by decide)).sets (by decide)) (fun g hr => ?_)
    refine ac_ink [some (.inr (.inr (some 69))), some (.inl _), some (.inl _), some (.inl _), none, none, none] mt_239 (Nat.le_of_ble_eq_true rfl) rfl ?_
    refine ar_ldI rfl rfl ?_
    refine ar_push rfl ?_
    refine ar_div rfl (by decide) ?_
    refine ar_svIk [some (.inr (.inr (some 69))), some (.inl _), some (.inl _), some (.inl _), some (.inl _), none, none] rfl rfl ?_
    refine ar_ldI rfl rfl ?_
    refine ar_push rfl ?_
    refine ar_div rfl (by decide) ?_
    refine ar_push rfl ?_
    refine ar_div rfl (by decide) ?_
    rw [hk]
    refine ar_svIk [some (.inr (.inr (some 69))), some (.inl _), some (.inl _), some (.inl _), some (.inl _), some (.inl 7), none] rfl rfl ?_
    refine ar_ldI rfl rfl ?_
    refine ar_push rfl ?_
    refine ar_div rfl (by decide) ?_
    refine ar_svIk [some (.inr (.inr (some 69))), some (.inl _), some (.inl _), some (.inl _), some (.inl _), some (.inl 7), some (.inl _)] rfl rfl ?_
    refine ar_ldI rfl rfl ?_
    refine ar_if1f rfl h0 ?_
    refine ar_ldI rfl rfl ?_
    refine ar_inl (mc := 0) (ms := 0) rfl rfl (Nat.le_of_ble_eq_true rfl) (Nat.le_of_ble_eq_true rfl) (by omega) (by omega) ?_
    refine ac_ink [some (.inl _)] mt_190 (Nat.le_of_ble_eq_true rfl) rfl ?_
    refine ar_ldI rfl rfl ?_
    refine ar_push rfl ?_
    refine ar_push rfl ?_
    refine ar_callv rfl rfl (Nat.le_of_ble_eq_true rfl) (Nat.le_of_ble_eq_true rfl) rfl (sp_in _ _ _ _ _) ?_
    refine ar_ret rfl (bi_ret _) ?_
    show aRun _ (aCall Mt _) _ 31 (_, [_], _, _, _)
    refine ar_if1f rfl (bi_e0f hp) ?_
    refine ar_ldI rfl rfl ?_
    refine ar_push rfl ?_
    refine ar_push rfl ?_
    refine ar_callv rfl rfl (Nat.le_of_ble_eq_true rfl) (Nat.le_of_ble_eq_true rfl) rfl (sp_in _ _ _ _ _) ?_
    refine ar_if1f rfl (bi_e0f (by decide)) ?_
    refine ar_ldI rfl rfl ?_
    refine ar_push rfl ?_
    refine ar_if2t rfl h9 ?_
    refine ar_ldI rfl rfl ?_
    refine ar_push rfl ?_
    refine ar_push rfl ?_
    refine ar_callv rfl rfl (Nat.le_of_ble_eq_true rfl) (Nat.le_of_ble_eq_true rfl) rfl (sp_in _ _ _ _ _) ?_
    refine ar_if1t rfl (bi_n0t hs) ?_
    refine ar_ldI rfl rfl ?_
    refine ar_inl (mc := 0) (ms := 0) rfl rfl (Nat.le_of_ble_eq_true rfl) (Nat.le_of_ble_eq_true rfl) (by omega) (by omega) ?_
    refine ac_ink [some (.inl 7)] mt_235 (Nat.le_of_ble_eq_true rfl) rfl ?_
    refine ar_ldI rfl rfl ?_
    refine ar_push rfl ?_
    refine ar_if2f rfl (by decide) ?_
    refine ar_ldI rfl rfl ?_
    refine ar_push rfl ?_
    refine ar_if2t rfl (by decide) ?_
    refine ar_push rfl ?_
    refine ar_ret rfl rfl ?_
    show aRun _ (aCall Mt _) _ 87 (_, [_], _, _, _)
    refine ar_if1t rfl (by decide) ?_
    refine ar_ldI rfl rfl ?_
    refine ar_inl (mc := 0) (ms := 0) rfl rfl (Nat.le_of_ble_eq_true rfl) (Nat.le_of_ble_eq_true rfl) (by omega) (by omega) ?_
    refine ac_ink [some (.inl 7)] mt_236 (Nat.le_of_ble_eq_true rfl) rfl ?_
    refine ar_ldI rfl rfl ?_
    refine ar_push rfl ?_
    refine ar_if2f rfl (by decide) ?_
    refine ar_ldI rfl rfl ?_
    refine ar_push rfl ?_
    refine ar_if2f rfl (by decide) ?_
    refine ar_push rfl ?_
    refine ar_go rfl ?_
    refine ar_ret rfl rfl ?_
    show aRun _ (aCall Mt _) _ 105 (_, [_], _, _, _)
    refine ar_if1f rfl (by decide) ?_
    refine ar_ldI rfl rfl ?_
    refine ar_push rfl ?_
    refine ar_push rfl ?_
    refine ar_callv rfl rfl (Nat.le_of_ble_eq_true rfl) (Nat.le_of_ble_eq_true rfl) rfl (sp_in _ _ _ _ _) ?_
    refine ar_if1f rfl (bi_e0f c101) ?_
    refine ar_ldI rfl rfl ?_
    refine ar_push rfl ?_
    refine ar_if2t rfl (by decide) ?_
    refine ar_ldA rfl rfl ?_
    refine ar_get rfl (hr.at 69 (by decide) (by decide) rfl) rfl ?_
    refine ar_push rfl ?_
    refine ar_if2t rfl (by decide) ?_
    refine ar_ldA rfl rfl ?_
    refine ar_ldI rfl rfl ?_
    refine ar_ldI rfl rfl ?_
    refine ar_ldA rfl rfl ?_
    refine ar_get rfl (hr.at 69 (by decide) (by decide) rfl) rfl ?_
    refine ar_ldA rfl rfl ?_
    refine ar_get rfl (hr.at 69 (by decide) (by decide) rfl) rfl ?_
    refine ar_ldA rfl rfl ?_
    refine ar_get rfl (hr.at 69 (by decide) (by decide) rfl) rfl ?_
    refine ar_ldI rfl rfl ?_
    refine ar_push rfl ?_
    refine ar_if2f rfl (eq_t h9) ?_
    refine ar_push rfl ?_
    refine ar_go rfl ?_
    refine ar_ldI rfl rfl ?_
    refine ar_ldI rfl rfl ?_
    refine ar_inl (mc := 0) (ms := 0) rfl (rcv_of (hr.at 69 (by decide) (by decide) rfl)) (Nat.le_of_ble_eq_true rfl) (Nat.le_of_ble_eq_true rfl) (by omega) (by omega) ?_
    refine ac_ink [some (.inr (.inr (some 69))), some (.inl 7), some (.inl _), some (.inl 0), some (.inl 0), some (.inl 0), some (.inl (-1)), some (.inl _), some (.inl _)] mt_238 (Nat.le_of_ble_eq_true rfl) rfl ?_
    refine ar_ldA rfl rfl ?_
    refine ar_get rfl (hr.at 69 (by decide) (by decide) rfl) rfl ?_
    refine ar_ldA rfl rfl ?_
    refine ar_get rfl (hr.at 69 (by decide) (by decide) rfl) rfl ?_
    refine ar_ldI rfl rfl ?_
    refine ar_ast rfl (hr.at 96 (by decide) (by decide) rfl) (by decide) (Nat.le_of_ble_eq_true rfl) ?_
    refine ar_ldA rfl rfl ?_
    refine ar_get rfl (hs_ne (by decide) (hr.at 69 (by decide) (by decide) rfl)) rfl ?_
    refine ar_ldA rfl rfl ?_
    refine ar_get rfl (hs_ne (by decide) (hr.at 69 (by decide) (by decide) rfl)) rfl ?_
    refine ar_ldI rfl rfl ?_
    refine ar_ast rfl (hs_ne (by decide) (hr.at 97 (by decide) (by decide) rfl)) (by decide) (Nat.le_of_ble_eq_true rfl) ?_
    refine ar_ldA rfl rfl ?_
    refine ar_get rfl (hs_ne (by decide) (hs_ne (by decide) (hr.at 69 (by decide) (by decide) rfl))) rfl ?_
    refine ar_ldA rfl rfl ?_
    refine ar_get rfl (hs_ne (by decide) (hs_ne (by decide) (hr.at 69 (by decide) (by decide) rfl))) rfl ?_
    refine ar_ldI rfl rfl ?_
    refine ar_ast rfl (hs_ne (by decide) (hs_ne (by decide) (hr.at 98 (by decide) (by decide) rfl))) (by decide) (Nat.le_of_ble_eq_true rfl) ?_
    refine ar_ldA rfl rfl ?_
    refine ar_get rfl (hs_ne (by decide) (hs_ne (by decide) (hs_ne (by decide) (hr.at 69 (by decide) (by decide) rfl)))) rfl ?_
    refine ar_ldA rfl rfl ?_
    refine ar_get rfl (hs_ne (by decide) (hs_ne (by decide) (hs_ne (by decide) (hr.at 69 (by decide) (by decide) rfl)))) rfl ?_
    refine ar_ldI rfl rfl ?_
    refine ar_ast rfl (hs_ne (by decide) (hs_ne (by decide) (hs_ne (by decide) (hr.at 99 (by decide) (by decide) rfl)))) (by decide) (Nat.le_of_ble_eq_true rfl) ?_
    refine ar_ldA rfl rfl ?_
    refine ar_get rfl (hs_ne (by decide) (hs_ne (by decide) (hs_ne (by decide) (hs_ne (by decide) (hr.at 69 (by decide) (by decide) rfl))))) rfl ?_
    refine ar_ldA rfl rfl ?_
    refine ar_get rfl (hs_ne (by decide) (hs_ne (by decide) (hs_ne (by decide) (hs_ne (by decide) (hr.at 69 (by decide) (by decide) rfl))))) rfl ?_
    refine ar_ldI rfl rfl ?_
    refine ar_ast rfl (hs_ne (by decide) (hs_ne (by decide) (hs_ne (by decide) (hs_ne (by decide) (hr.at 100 (by decide) (by decide) rfl))))) (by decide) (Nat.le_of_ble_eq_true rfl) ?_
    refine ar_ldA rfl rfl ?_
    refine ar_get rfl (hs_ne (by decide) (hs_ne (by decide) (hs_ne (by decide) (hs_ne (by decide) (hs_ne (by decide) (hr.at 69 (by decide) (by decide) rfl)))))) rfl ?_
    refine ar_ldA rfl rfl ?_
    refine ar_get rfl (hs_ne (by decide) (hs_ne (by decide) (hs_ne (by decide) (hs_ne (by decide) (hs_ne (by decide) (hr.at 69 (by decide) (by decide) rfl)))))) rfl ?_
    refine ar_ldI rfl rfl ?_
    refine ar_ast rfl (hs_ne (by decide) (hs_ne (by decide) (hs_ne (by decide) (hs_ne (by decide) (hs_ne (by decide) (hr.at 101 (by decide) (by decide) rfl)))))) (by decide) (Nat.le_of_ble_eq_true rfl) ?_
    refine ar_ldA rfl rfl ?_
    refine ar_get rfl (hs_ne (by decide) (hs_ne (by decide) (hs_ne (by decide) (hs_ne (by decide) (hs_ne (by decide) (hs_ne (by decide) (hr.at 69 (by decide) (by decide) rfl))))))) rfl ?_
    refine ar_ldA rfl rfl ?_
    refine ar_get rfl (hs_ne (by decide) (hs_ne (by decide) (hs_ne (by decide) (hs_ne (by decide) (hs_ne (by decide) (hs_ne (by decide) (hr.at 69 (by decide) (by decide) rfl))))))) rfl ?_
    refine ar_ldI rfl rfl ?_
    refine ar_ast rfl (hs_ne (by decide) (hs_ne (by decide) (hs_ne (by decide) (hs_ne (by decide) (hs_ne (by decide) (hs_ne (by decide) (hr.at 102 (by decide) (by decide) rfl))))))) (by decide) (Nat.le_of_ble_eq_true rfl) ?_
    refine ar_ldA rfl rfl ?_
    refine ar_get rfl (hs_ne (by decide) (hs_ne (by decide) (hs_ne (by decide) (hs_ne (by decide) (hs_ne (by decide) (hs_ne (by decide) (hs_ne (by decide) (hr.at 69 (by decide) (by decide) rfl)))))))) rfl ?_
    refine ar_ldA rfl rfl ?_
    refine ar_get rfl (hs_ne (by decide) (hs_ne (by decide) (hs_ne (by decide) (hs_ne (by decide) (hs_ne (by decide) (hs_ne (by decide) (hs_ne (by decide) (hr.at 69 (by decide) (by decide) rfl)))))))) rfl ?_
    refine ar_ldI rfl rfl ?_
    refine ar_inl (mc := 0) (ms := 0) rfl rfl (Nat.le_of_ble_eq_true rfl) (Nat.le_of_ble_eq_true rfl) (by omega) (by omega) ?_
    refine ac_ink [some (.inl 7)] mt_235 (Nat.le_of_ble_eq_true rfl) rfl ?_
    refine ar_ldI rfl rfl ?_
    refine ar_push rfl ?_
    refine ar_if2f rfl (by decide) ?_
    refine ar_ldI rfl rfl ?_
    refine ar_push rfl ?_
    refine ar_if2t rfl (by decide) ?_
    refine ar_push rfl ?_
    refine ar_ret rfl rfl ?_
    show aRun _ (aCall Mt _) _ 86 (_, [_, _, _], _, _, _)
    refine ar_if1f rfl (by decide) ?_
    refine ar_ldI rfl rfl ?_
    refine ar_inl (mc := 0) (ms := 0) rfl rfl (Nat.le_of_ble_eq_true rfl) (Nat.le_of_ble_eq_true rfl) (by omega) (by omega) ?_
    refine ac_ink [some (.inl 7)] mt_236 (Nat.le_of_ble_eq_true rfl) rfl ?_
    refine ar_ldI rfl rfl ?_
    refine ar_push rfl ?_
    refine ar_if2f rfl (by decide) ?_
    refine ar_ldI rfl rfl ?_
    refine ar_push rfl ?_
    refine ar_if2f rfl (by decide) ?_
    refine ar_push rfl ?_
    refine ar_go rfl ?_
    refine ar_ret rfl rfl ?_
    show aRun _ (aCall Mt _) _ 93 (_, [_, _, _], _, _, _)
    refine ar_if1t rfl (by decide) ?_
    refine ar_ldI rfl rfl ?_
    refine ar_go rfl ?_
    refine ar_ast rfl (hs_ne (by decide) (hs_ne (by decide) (hs_ne (by decide) (hs_ne (by decide) (hs_ne (by decide) (hs_ne (by decide) (hs_ne (by decide) (hr.at 103 (by decide) (by decide) rfl)))))))) (by decide) (Nat.le_of_ble_eq_true rfl) ?_
    refine ar_ldA rfl rfl ?_
    refine ar_dup rfl rfl ?_
    refine ar_get rfl (hs_ne (by decide) (hs_ne (by decide) (hs_ne (by decide) (hs_ne (by decide) (hs_ne (by decide) (hs_ne (by decide) (hs_ne (by decide) (hs_ne (by decide) (hr.at 69 (by decide) (by decide) rfl))))))))) rfl ?_
    refine ar_push rfl ?_
    refine ar_bink (z := 1) rfl (by decide) ?_
    refine ar_put rfl (hs_ne (by decide) (hs_ne (by decide) (hs_ne (by decide) (hs_ne (by decide) (hs_ne (by decide) (hs_ne (by decide) (hs_ne (by decide) (hs_ne (by decide) (hr.at 69 (by decide) (by decide) rfl))))))))) (Nat.le_of_ble_eq_true rfl) rfl ?_
    refine ar_ldA rfl rfl ?_
    refine ar_get rfl (hs_eq (hs_ne (by decide) (hs_ne (by decide) (hs_ne (by decide) (hs_ne (by decide) (hs_ne (by decide) (hs_ne (by decide) (hs_ne (by decide) (hs_ne (by decide) (hr.at 69 (by decide) (by decide) rfl)))))))))) rfl ?_
    refine ar_push rfl ?_
    refine ar_bink (z := 0) rfl (by decide) ?_
    refine ar_ret rfl rfl ?_
    show aRun _ (aCall Mt _) _ 181 (_, [_], _, _, _)
    refine ar_ret rfl rfl ?_
    exact ⟨rfl, hJ _ _ _⟩
  · refine ar_push rfl ?_
    refine ar_ret rfl rfl ?_
    refine ⟨_, 0, 0, _, rfl, Nat.zero_le _, Nat.zero_le _, rfl, ?_⟩
    refine rgen rFr_F (fun g hr => ?_)
    refine ac_ink [some (.inr (.inr (some 69))), some (.inl _), some (.inl _), some (.inl _), none, none, none] mt_239 (Nat.le_of_ble_eq_true rfl) rfl ?_
    refine ar_ldI rfl rfl ?_
    refine ar_push rfl ?_
    refine ar_div rfl (by decide) ?_
    refine ar_svIk [some (.inr (.inr (some 69))), some (.inl _), some (.inl _), some (.inl _), some (.inl _), none, none] rfl rfl ?_
    refine ar_ldI rfl rfl ?_
    refine ar_push rfl ?_
    refine ar_div rfl (by decide) ?_
    refine ar_push rfl ?_
    refine ar_div rfl (by decide) ?_
    rw [hk]
    refine ar_svIk [some (.inr (.inr (some 69))), some (.inl _), some (.inl _), some (.inl _), some (.inl _), some (.inl 7), none] rfl rfl ?_
    refine ar_ldI rfl rfl ?_
    refine ar_push rfl ?_
    refine ar_div rfl (by decide) ?_
    refine ar_svIk [some (.inr (.inr (some 69))), some (.inl _), some (.inl _), some (.inl _), some (.inl _), some (.inl 7), some (.inl _)] rfl rfl ?_
    refine ar_ldI rfl rfl ?_
    refine ar_if1f rfl h0 ?_
    refine ar_ldI rfl rfl ?_
    refine ar_inl (mc := 0) (ms := 0) rfl rfl (Nat.le_of_ble_eq_true rfl) (Nat.le_of_ble_eq_true rfl) (by omega) (by omega) ?_
    refine ac_ink [some (.inl _)] mt_190 (Nat.le_of_ble_eq_true rfl) rfl ?_
    refine ar_ldI rfl rfl ?_
    refine ar_push rfl ?_
    refine ar_push rfl ?_
    refine ar_callv rfl rfl (Nat.le_of_ble_eq_true rfl) (Nat.le_of_ble_eq_true rfl) rfl (sp_in _ _ _ _ _) ?_
    refine ar_ret rfl (bi_ret _) ?_
    show aRun _ (aCall Mt _) _ 31 (_, [_], _, _, _)
    refine ar_if1f rfl (bi_e0f hp) ?_
    refine ar_ldI rfl rfl ?_
    refine ar_push rfl ?_
    refine ar_push rfl ?_
    refine ar_callv rfl rfl (Nat.le_of_ble_eq_true rfl) (Nat.le_of_ble_eq_true rfl) rfl (sp_in _ _ _ _ _) ?_
    refine ar_if1f rfl (bi_e0f (by decide)) ?_
    refine ar_ldI rfl rfl ?_
    refine ar_push rfl ?_
    refine ar_if2t rfl h9 ?_
    refine ar_ldI rfl rfl ?_
    refine ar_push rfl ?_
    refine ar_push rfl ?_
    refine ar_callv rfl rfl (Nat.le_of_ble_eq_true rfl) (Nat.le_of_ble_eq_true rfl) rfl (sp_in _ _ _ _ _) ?_
    refine ar_if1t rfl (bi_n0t hs) ?_
    refine ar_ldI rfl rfl ?_
    refine ar_inl (mc := 0) (ms := 0) rfl rfl (Nat.le_of_ble_eq_true rfl) (Nat.le_of_ble_eq_true rfl) (by omega) (by omega) ?_
    refine ac_ink [some (.inl 7)] mt_235 (Nat.le_of_ble_eq_true rfl) rfl ?_
    refine ar_ldI rfl rfl ?_
    refine ar_push rfl ?_
    refine ar_if2f rfl (by decide) ?_
    refine ar_ldI rfl rfl ?_
    refine ar_push rfl ?_
    refine ar_if2t rfl (by decide) ?_
    refine ar_push rfl ?_
    refine ar_ret rfl rfl ?_
    show aRun _ (aCall Mt _) _ 87 (_, [_], _, _, _)
    refine ar_if1t rfl (by decide) ?_
    refine ar_ldI rfl rfl ?_
    refine ar_inl (mc := 0) (ms := 0) rfl rfl (Nat.le_of_ble_eq_true rfl) (Nat.le_of_ble_eq_true rfl) (by omega) (by omega) ?_
    refine ac_ink [some (.inl 7)] mt_236 (Nat.le_of_ble_eq_true rfl) rfl ?_
    refine ar_ldI rfl rfl ?_
    refine ar_push rfl ?_
    refine ar_if2f rfl (by decide) ?_
    refine ar_ldI rfl rfl ?_
    refine ar_push rfl ?_
    refine ar_if2f rfl (by decide) ?_
    refine ar_push rfl ?_
    refine ar_go rfl ?_
    refine ar_ret rfl rfl ?_
    show aRun _ (aCall Mt _) _ 105 (_, [_], _, _, _)
    refine ar_if1f rfl (by decide) ?_
    refine ar_ldI rfl rfl ?_
    refine ar_push rfl ?_
    refine ar_push rfl ?_
    refine ar_callv rfl rfl (Nat.le_of_ble_eq_true rfl) (Nat.le_of_ble_eq_true rfl) rfl (sp_in _ _ _ _ _) ?_
    refine ar_if1t rfl (bi_e0t c101) ?_
    refine ar_push rfl ?_
    refine ar_ret rfl rfl ?_
    exact ⟨rfl, hJ _ _ _⟩

end P1C
