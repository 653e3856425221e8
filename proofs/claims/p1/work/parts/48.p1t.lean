section P1T
theorem txt_no {x : Int32} (h : wi x 10 18 = false) : wi (x - 10) 0 8 = false := by
  cases hq : wi (x - 10) 0 8 with
  | false => rfl
  | true =>
    have w := wi_to hq
    have l : ((0) : Int32).toInt = 0 := by decide
    have r : ((8) : Int32).toInt = 8 := by decide
    have e : x = (x - 10) + 10 := by rw [Int32.sub_add_cancel]
    rcases (show (x - 10).toInt = 0 ∨ (x - 10).toInt = 1 ∨ (x - 10).toInt = 2 ∨ (x - 10).toInt = 3 ∨ (x - 10).toInt = 4 ∨ (x - 10).toInt = 5 ∨ (x - 10).toInt = 6 ∨ (x - 10).toInt = 7 ∨ (x - 10).toInt = 8 by omega) with n | n | n | n | n | n | n | n | n
    · have f := en_of n (show ((0) : Int32).toInt = 0 by decide)
      rw [f] at e
      rw [e] at h
      exact absurd h (by decide)
    · have f := en_of n (show ((1) : Int32).toInt = 1 by decide)
      rw [f] at e
      rw [e] at h
      exact absurd h (by decide)
    · have f := en_of n (show ((2) : Int32).toInt = 2 by decide)
      rw [f] at e
      rw [e] at h
      exact absurd h (by decide)
    · have f := en_of n (show ((3) : Int32).toInt = 3 by decide)
      rw [f] at e
      rw [e] at h
      exact absurd h (by decide)
    · have f := en_of n (show ((4) : Int32).toInt = 4 by decide)
      rw [f] at e
      rw [e] at h
      exact absurd h (by decide)
    · have f := en_of n (show ((5) : Int32).toInt = 5 by decide)
      rw [f] at e
      rw [e] at h
      exact absurd h (by decide)
    · have f := en_of n (show ((6) : Int32).toInt = 6 by decide)
      rw [f] at e
      rw [e] at h
      exact absurd h (by decide)
    · have f := en_of n (show ((7) : Int32).toInt = 7 by decide)
      rw [f] at e
      rw [e] at h
      exact absurd h (by decide)
    · have f := en_of n (show ((8) : Int32).toInt = 8 by decide)
      rw [f] at e
      rw [e] at h
      exact absurd h (by decide)
set_option maxRecDepth 20000 in
set_option maxHeartbeats 4000000 in
theorem p1_7_0 (J : aH → Nat → Nat → Prop) (hJ : ∀ h a b, J h a b) (kc ks : Nat) (hkc : 1000 ≤ kc) (hks : 100000 ≤ ks) : aPairI 0 69 131 227 [.inl 0] J hF kc ks := by
  refine ⟨0, 0, _, by omega, by omega, rfl, ?_⟩
  refine ac_ink [some (.inr (.inr (some 0))), some (.inl 0), none, none] mt_131 (Nat.le_of_ble_eq_true rfl) rfl ?_
  refine ar_ldA rfl rfl ?_
  refine ar_ldI rfl rfl ?_
  refine ar_inl (mc := 0) (ms := 0) rfl (rcv_of rfl) (Nat.le_of_ble_eq_true rfl) (Nat.le_of_ble_eq_true rfl) (by omega) (by omega) ?_
  refine ac_ink [some (.inr (.inr (some 0))), some (.inl 0)] mt_166 (Nat.le_of_ble_eq_true rfl) rfl ?_
  refine ar_ldI rfl rfl ?_
  refine ar_if1f rfl (by decide) ?_
  refine ar_ldA rfl rfl ?_
  refine ar_get rfl rfl rfl ?_
  refine ar_get rfl rfl rfl ?_
  refine ar_ret rfl rfl ?_
  show aRun _ (aCall Mt _) _ 5 (_, [_], _, _, _)
  refine ar_svAk [some (.inr (.inr (some 0))), some (.inl 0), some (.inr (.inr (some 9))), none] rfl rfl ?_
  refine ar_ldA rfl rfl ?_
  refine ar_nulS rfl ?_
  refine ar_ldA rfl rfl ?_
  refine ar_get rfl rfl rfl ?_
  refine ar_ldA rfl rfl ?_
  refine ar_inl (mc := 0) (ms := 0) rfl (rcv_of rfl) (Nat.le_of_ble_eq_true rfl) (Nat.le_of_ble_eq_true rfl) (by omega) (by omega) ?_
  refine ac_ink [some (.inr (.inr (some 5))), some (.inr (.inr (some 9))), none] mt_94 (Nat.le_of_ble_eq_true rfl) rfl ?_
  refine ar_ldA rfl rfl ?_
  refine ar_push rfl ?_
  refine ar_put rfl rfl (Nat.le_of_ble_eq_true rfl) rfl ?_
  refine ar_ldA rfl rfl ?_
  refine ar_push rfl ?_
  refine ar_put rfl (hs_eq rfl) (Nat.le_of_ble_eq_true rfl) rfl ?_
  refine ar_ldA rfl rfl ?_
  refine ar_push rfl ?_
  refine ar_put rfl (hs_eq (hs_eq rfl)) (Nat.le_of_ble_eq_true rfl) rfl ?_
  refine ar_ldA rfl rfl ?_
  refine ar_inl (mc := 0) (ms := 0) rfl (rcv_of (hs_eq (hs_eq (hs_eq rfl)))) (Nat.le_of_ble_eq_true rfl) (Nat.le_of_ble_eq_true rfl) (by omega) (by omega) ?_
  refine ac_ink [some (.inr (.inr (some 5))), none] mt_100 (Nat.le_of_ble_eq_true rfl) rfl ?_
  refine ar_ldA rfl rfl ?_
  refine ar_push rfl ?_
  refine ar_inl (mc := 0) (ms := 0) rfl (rcv_of (hs_eq (hs_eq (hs_eq rfl)))) (Nat.le_of_ble_eq_true rfl) (Nat.le_of_ble_eq_true rfl) (by omega) (by omega) ?_
  refine ac_ink [some (.inr (.inr (some 5))), some (.inl 0), none] mt_101 (Nat.le_of_ble_eq_true rfl) rfl ?_
  refine ar_ldA rfl rfl ?_
  refine ar_ldI rfl rfl ?_
  refine ar_inl (mc := 0) (ms := 0) rfl (rcv_of (hs_eq (hs_eq (hs_eq rfl)))) (Nat.le_of_ble_eq_true rfl) (Nat.le_of_ble_eq_true rfl) (by omega) (by omega) ?_
  refine ac_ink [some (.inr (.inr (some 5))), some (.inl 0), none] mt_102 (Nat.le_of_ble_eq_true rfl) rfl ?_
  refine ar_ldA rfl rfl ?_
  refine ar_ldI rfl rfl ?_
  refine ar_inl (mc := 0) (ms := 0) rfl (rcv_of (hs_eq (hs_eq (hs_eq rfl)))) (Nat.le_of_ble_eq_true rfl) (Nat.le_of_ble_eq_true rfl) (by omega) (by omega) ?_
  refine ac_ink [some (.inr (.inr (some 5))), some (.inl 0), none] mt_103 (Nat.le_of_ble_eq_true rfl) rfl ?_
  refine ar_ldA rfl rfl ?_
  refine ar_ldI rfl rfl ?_
  refine ar_inl (mc := 0) (ms := 0) rfl (rcv_of (hs_eq (hs_eq (hs_eq rfl)))) (Nat.le_of_ble_eq_true rfl) (Nat.le_of_ble_eq_true rfl) (by omega) (by omega) ?_
  refine ac_ink [some (.inr (.inr (some 5))), some (.inl 0), none, none] mt_104 (Nat.le_of_ble_eq_true rfl) rfl ?_
  refine ar_ldA rfl rfl ?_
  refine ar_ldI rfl rfl ?_
  refine ar_inl (mc := 0) (ms := 0) rfl (rcv_of (hs_eq (hs_eq (hs_eq rfl)))) (Nat.le_of_ble_eq_true rfl) (Nat.le_of_ble_eq_true rfl) (by omega) (by omega) ?_
  refine ac_ink [some (.inr (.inr (some 5))), some (.inl 0), none, none] mt_105 (Nat.le_of_ble_eq_true rfl) rfl ?_
  refine ar_ldA rfl rfl ?_
  refine ar_ldI rfl rfl ?_
  refine ar_inl (mc := 0) (ms := 0) rfl (rcv_of (hs_eq (hs_eq (hs_eq rfl)))) (Nat.le_of_ble_eq_true rfl) (Nat.le_of_ble_eq_true rfl) (by omega) (by omega) ?_
  refine ac_ink [some (.inr (.inr (some 5))), some (.inl 0), none] mt_106 (Nat.le_of_ble_eq_true rfl) rfl ?_
  refine ar_ldA rfl rfl ?_
  refine ar_inl (mc := 0) (ms := 0) rfl (rcv_of (hs_eq (hs_eq (hs_eq rfl)))) (Nat.le_of_ble_eq_true rfl) (Nat.le_of_ble_eq_true rfl) (by omega) (by omega) ?_
  refine ac_ink [some (.inr (.inr (some 5)))] mt_95 (Nat.le_of_ble_eq_true rfl) rfl ?_
  refine ar_ldA rfl rfl ?_
  refine ar_get rfl (hs_eq (hs_eq (hs_eq rfl))) rfl ?_
  refine ar_if1f rfl (by decide) ?_
  refine ar_ldA rfl rfl ?_
  refine ar_get rfl (hs_eq (hs_eq (hs_eq rfl))) rfl ?_
  refine ar_ldA rfl rfl ?_
  refine ar_get rfl (hs_eq (hs_eq (hs_eq rfl))) rfl ?_
  refine ar_if2t rfl (by decide) ?_
  refine ar_push rfl ?_
  refine ar_ret rfl rfl ?_
  show aRun _ (aCall Mt _) _ 4 (_, [_], _, _, _)
  refine ar_svIk [some (.inr (.inr (some 5))), some (.inl 0), some (.inl (-1))] rfl rfl ?_
  refine ar_ldI rfl rfl ?_
  refine ar_push rfl ?_
  refine ar_push rfl ?_
  refine ar_callv rfl rfl (Nat.le_of_ble_eq_true rfl) (Nat.le_of_ble_eq_true rfl) rfl (sp_within _ _ _ _ _) ?_
  refine ar_if1t rfl (bi_e0t (by decide)) ?_
  refine ar_ldI rfl rfl ?_
  refine ar_push rfl ?_
  refine ar_push rfl ?_
  refine ar_callv rfl rfl (Nat.le_of_ble_eq_true rfl) (Nat.le_of_ble_eq_true rfl) rfl (sp_within _ _ _ _ _) ?_
  refine ar_if1t rfl (bi_e0t (by decide)) ?_
  refine ar_ldI rfl rfl ?_
  refine ar_push rfl ?_
  refine ar_if2t rfl (by decide) ?_
  refine ar_ldA rfl rfl ?_
  refine ar_push rfl ?_
  refine ar_inl (mc := 0) (ms := 0) rfl (rcv_of (hs_eq (hs_eq (hs_eq rfl)))) (Nat.le_of_ble_eq_true rfl) (Nat.le_of_ble_eq_true rfl) (by omega) (by omega) ?_
  refine ac_ink [some (.inr (.inr (some 5))), some (.inl 40)] mt_96 (Nat.le_of_ble_eq_true rfl) rfl ?_
  refine ar_ldA rfl rfl ?_
  refine ar_inl (mc := 0) (ms := 0) rfl (rcv_of (hs_eq (hs_eq (hs_eq rfl)))) (Nat.le_of_ble_eq_true rfl) (Nat.le_of_ble_eq_true rfl) (by omega) (by omega) ?_
  refine ac_ink [some (.inr (.inr (some 5)))] mt_95 (Nat.le_of_ble_eq_true rfl) rfl ?_
  refine ar_ldA rfl rfl ?_
  refine ar_get rfl (hs_eq (hs_eq (hs_eq rfl))) rfl ?_
  refine ar_if1f rfl (by decide) ?_
  refine ar_ldA rfl rfl ?_
  refine ar_get rfl (hs_eq (hs_eq (hs_eq rfl))) rfl ?_
  refine ar_ldA rfl rfl ?_
  refine ar_get rfl (hs_eq (hs_eq (hs_eq rfl))) rfl ?_
  refine ar_if2t rfl (by decide) ?_
  refine ar_push rfl ?_
  refine ar_ret rfl rfl ?_
  show aRun _ (aCall Mt _) _ 4 (_, [_], _, _, _)
  refine ar_ldI rfl rfl ?_
  refine ar_if2f rfl (by decide) ?_
  refine ar_push rfl ?_
  refine ar_ret rfl rfl ?_
  show aRun _ (aCall Mt _) _ 88 (_, [_], _, _, _)
  refine ar_if1t rfl (by decide) ?_
  refine ar_ldA rfl rfl ?_
  refine ar_push rfl ?_
  refine ar_inl (mc := 0) (ms := 0) rfl (rcv_of (hs_eq (hs_eq (hs_eq rfl)))) (Nat.le_of_ble_eq_true rfl) (Nat.le_of_ble_eq_true rfl) (by omega) (by omega) ?_
  refine ac_ink [some (.inr (.inr (some 5))), some (.inl 33)] mt_96 (Nat.le_of_ble_eq_true rfl) rfl ?_
  refine ar_ldA rfl rfl ?_
  refine ar_inl (mc := 0) (ms := 0) rfl (rcv_of (hs_eq (hs_eq (hs_eq rfl)))) (Nat.le_of_ble_eq_true rfl) (Nat.le_of_ble_eq_true rfl) (by omega) (by omega) ?_
  refine ac_ink [some (.inr (.inr (some 5)))] mt_95 (Nat.le_of_ble_eq_true rfl) rfl ?_
  refine ar_ldA rfl rfl ?_
  refine ar_get rfl (hs_eq (hs_eq (hs_eq rfl))) rfl ?_
  refine ar_if1f rfl (by decide) ?_
  refine ar_ldA rfl rfl ?_
  refine ar_get rfl (hs_eq (hs_eq (hs_eq rfl))) rfl ?_
  refine ar_ldA rfl rfl ?_
  refine ar_get rfl (hs_eq (hs_eq (hs_eq rfl))) rfl ?_
  refine ar_if2t rfl (by decide) ?_
  refine ar_push rfl ?_
  refine ar_ret rfl rfl ?_
  show aRun _ (aCall Mt _) _ 4 (_, [_], _, _, _)
  refine ar_ldI rfl rfl ?_
  refine ar_if2f rfl (by decide) ?_
  refine ar_push rfl ?_
  refine ar_ret rfl rfl ?_
  show aRun _ (aCall Mt _) _ 120 (_, [_], _, _, _)
  refine ar_if1t rfl (by decide) ?_
  refine ar_ldA rfl rfl ?_
  refine ar_push rfl ?_
  refine ar_inl (mc := 0) (ms := 0) rfl (rcv_of (hs_eq (hs_eq (hs_eq rfl)))) (Nat.le_of_ble_eq_true rfl) (Nat.le_of_ble_eq_true rfl) (by omega) (by omega) ?_
  refine ac_ink [some (.inr (.inr (some 5))), some (.inl 45)] mt_96 (Nat.le_of_ble_eq_true rfl) rfl ?_
  refine ar_ldA rfl rfl ?_
  refine ar_inl (mc := 0) (ms := 0) rfl (rcv_of (hs_eq (hs_eq (hs_eq rfl)))) (Nat.le_of_ble_eq_true rfl) (Nat.le_of_ble_eq_true rfl) (by omega) (by omega) ?_
  refine ac_ink [some (.inr (.inr (some 5)))] mt_95 (Nat.le_of_ble_eq_true rfl) rfl ?_
  refine ar_ldA rfl rfl ?_
  refine ar_get rfl (hs_eq (hs_eq (hs_eq rfl))) rfl ?_
  refine ar_if1f rfl (by decide) ?_
  refine ar_ldA rfl rfl ?_
  refine ar_get rfl (hs_eq (hs_eq (hs_eq rfl))) rfl ?_
  refine ar_ldA rfl rfl ?_
  refine ar_get rfl (hs_eq (hs_eq (hs_eq rfl))) rfl ?_
  refine ar_if2t rfl (by decide) ?_
  refine ar_push rfl ?_
  refine ar_ret rfl rfl ?_
  show aRun _ (aCall Mt _) _ 4 (_, [_], _, _, _)
  refine ar_ldI rfl rfl ?_
  refine ar_if2f rfl (by decide) ?_
  refine ar_push rfl ?_
  refine ar_ret rfl rfl ?_
  show aRun _ (aCall Mt _) _ 145 (_, [_], _, _, _)
  refine ar_if1t rfl (by decide) ?_
  refine ar_ldA rfl rfl ?_
  refine ar_inl (mc := 0) (ms := 0) rfl (rcv_of (hs_eq (hs_eq (hs_eq rfl)))) (Nat.le_of_ble_eq_true rfl) (Nat.le_of_ble_eq_true rfl) (by omega) (by omega) ?_
  refine ac_ink [some (.inr (.inr (some 5)))] mt_99 (Nat.le_of_ble_eq_true rfl) rfl ?_
  refine ar_ldA rfl rfl ?_
  refine ar_get rfl (hs_eq (hs_eq (hs_eq rfl))) rfl ?_
  refine ar_push rfl ?_
  refine ar_if2f rfl (by decide) ?_
  refine ar_ldA rfl rfl ?_
  refine ar_ldA rfl rfl ?_
  refine ar_get rfl (hs_eq (hs_eq (hs_eq rfl))) rfl ?_
  refine ar_put rfl (hs_eq (hs_eq (hs_eq rfl))) (Nat.le_of_ble_eq_true rfl) rfl ?_
  refine ar_ret0 rfl ?_
  show aRun _ (aCall Mt _) _ 168 (_, [], _, _, _)
  refine ar_ret0 rfl ?_
  show aRun _ (aCall Mt _) _ 5 (_, [], _, _, _)
  refine ar_push rfl ?_
  refine ar_svIk [some (.inr (.inr (some 5))), some (.inl 0), some (.inl 0), none] rfl rfl ?_
  refine ar_ldI rfl rfl ?_
  refine ar_ldA rfl rfl ?_
  refine ar_get rfl (hs_eq (hs_eq (hs_eq (hs_eq rfl)))) rfl ?_
  refine ar_if2t rfl (by decide) ?_
  refine ar_ret0 rfl ?_
  show aRun _ (aCall Mt _) _ 5 (_, [], _, _, _)
  refine ar_push rfl ?_
  refine ar_svIk [some (.inr (.inr (some 5))), some (.inl 0), some (.inl 0), none] rfl rfl ?_
  refine ar_ldI rfl rfl ?_
  refine ar_ldA rfl rfl ?_
  refine ar_get rfl (hs_eq (hs_eq (hs_eq (hs_eq rfl)))) rfl ?_
  refine ar_if2t rfl (by decide) ?_
  refine ar_ret0 rfl ?_
  show aRun _ (aCall Mt _) _ 5 (_, [], _, _, _)
  refine ar_ldA rfl rfl ?_
  refine ar_push rfl ?_
  refine ar_inl (mc := 0) (ms := 0) rfl (rcv_of (hs_eq (hs_eq (hs_eq (hs_eq rfl))))) (Nat.le_of_ble_eq_true rfl) (Nat.le_of_ble_eq_true rfl) (by omega) (by omega) ?_
  refine ac_ink [some (.inr (.inr (some 5))), some (.inl 60)] mt_97 (Nat.le_of_ble_eq_true rfl) rfl ?_
  refine ar_ldA rfl rfl ?_
  refine ar_get rfl (hs_eq (hs_eq (hs_eq (hs_eq rfl)))) rfl ?_
  refine ar_push rfl ?_
  refine ar_if2t rfl (by decide) ?_
  refine ar_push rfl ?_
  refine ar_ret rfl rfl ?_
  show aRun _ (aCall Mt _) _ 11 (_, [_], _, _, _)
  refine ar_if1t rfl (by decide) ?_
  refine ar_ldA rfl rfl ?_
  refine ar_push rfl ?_
  refine ar_inl (mc := 0) (ms := 0) rfl (rcv_of (hs_eq (hs_eq (hs_eq (hs_eq rfl))))) (Nat.le_of_ble_eq_true rfl) (Nat.le_of_ble_eq_true rfl) (by omega) (by omega) ?_
  refine ac_ink [some (.inr (.inr (some 5))), some (.inl 61)] mt_97 (Nat.le_of_ble_eq_true rfl) rfl ?_
  refine ar_ldA rfl rfl ?_
  refine ar_get rfl (hs_eq (hs_eq (hs_eq (hs_eq rfl)))) rfl ?_
  refine ar_push rfl ?_
  refine ar_if2t rfl (by decide) ?_
  refine ar_push rfl ?_
  refine ar_ret rfl rfl ?_
  show aRun _ (aCall Mt _) _ 25 (_, [_], _, _, _)
  refine ar_if1t rfl (by decide) ?_
  refine ar_ldA rfl rfl ?_
  refine ar_push rfl ?_
  refine ar_inl (mc := 0) (ms := 0) rfl (rcv_of (hs_eq (hs_eq (hs_eq (hs_eq rfl))))) (Nat.le_of_ble_eq_true rfl) (Nat.le_of_ble_eq_true rfl) (by omega) (by omega) ?_
  refine ac_ink [some (.inr (.inr (some 5))), some (.inl 62)] mt_97 (Nat.le_of_ble_eq_true rfl) rfl ?_
  refine ar_ldA rfl rfl ?_
  refine ar_get rfl (hs_eq (hs_eq (hs_eq (hs_eq rfl)))) rfl ?_
  refine ar_push rfl ?_
  refine ar_if2t rfl (by decide) ?_
  refine ar_push rfl ?_
  refine ar_ret rfl rfl ?_
  show aRun _ (aCall Mt _) _ 39 (_, [_], _, _, _)
  refine ar_if1t rfl (by decide) ?_
  refine ar_push rfl ?_
  refine ar_svIk [some (.inr (.inr (some 5))), some (.inl 0), some (.inl 15)] rfl rfl ?_
  refine ar_ldI rfl rfl ?_
  refine ar_push rfl ?_
  refine ar_if2f rfl (by decide) ?_
  refine ar_ret0 rfl ?_
  show aRun _ (aCall Mt _) _ 5 (_, [], _, _, _)
  refine ar_push rfl ?_
  refine ar_svIk [some (.inr (.inr (some 5))), some (.inl 0), some (.inl 0)] rfl rfl ?_
  refine ar_ldI rfl rfl ?_
  refine ar_ldA rfl rfl ?_
  refine ar_get rfl (hs_eq (hs_eq (hs_eq (hs_eq rfl)))) rfl ?_
  refine ar_if2t rfl (by decide) ?_
  refine ar_ret0 rfl ?_
  show aRun _ (aCall Mt _) _ 5 (_, [], _, _, _)
  refine ar_push rfl ?_
  refine ar_svIk [some (.inr (.inr (some 5))), some (.inl 0), some (.inl 0)] rfl rfl ?_
  refine ar_ldI rfl rfl ?_
  refine ar_ldA rfl rfl ?_
  refine ar_get rfl (hs_eq (hs_eq (hs_eq (hs_eq rfl)))) rfl ?_
  refine ar_if2t rfl (by decide) ?_
  refine ar_ret0 rfl ?_
  show aRun _ (aCall Mt _) _ 5 (_, [], _, _, _)
  refine ar_ldA rfl rfl ?_
  refine ar_push rfl ?_
  refine ar_inl (mc := 0) (ms := 0) rfl (rcv_of (hs_eq (hs_eq (hs_eq (hs_eq rfl))))) (Nat.le_of_ble_eq_true rfl) (Nat.le_of_ble_eq_true rfl) (by omega) (by omega) ?_
  refine ac_ink [some (.inr (.inr (some 5))), some (.inl 63)] mt_97 (Nat.le_of_ble_eq_true rfl) rfl ?_
  refine ar_ldA rfl rfl ?_
  refine ar_get rfl (hs_eq (hs_eq (hs_eq (hs_eq rfl)))) rfl ?_
  refine ar_push rfl ?_
  refine ar_if2t rfl (by decide) ?_
  refine ar_push rfl ?_
  refine ar_ret rfl rfl ?_
  show aRun _ (aCall Mt _) _ 11 (_, [_], _, _, _)
  refine ar_if1f rfl (by decide) ?_
  refine ar_ldA rfl rfl ?_
  refine ar_push rfl ?_
  refine ar_push rfl ?_
  refine ar_inl (mc := 0) (ms := 0) rfl (rcv_of (hs_eq (hs_eq (hs_eq (hs_eq rfl))))) (Nat.le_of_ble_eq_true rfl) (Nat.le_of_ble_eq_true rfl) (by omega) (by omega) ?_
  refine ac_ink [some (.inr (.inr (some 5))), some (.inl 15), some (.inl 0)] mt_98 (Nat.le_of_ble_eq_true rfl) rfl ?_
  refine ar_ldA rfl rfl ?_
  refine ar_get rfl (hs_eq (hs_eq (hs_eq (hs_eq rfl)))) rfl ?_
  refine ar_ldA rfl rfl ?_
  refine ar_get rfl (hs_eq (hs_eq (hs_eq (hs_eq rfl)))) rfl ?_
  refine ar_len rfl (hs_ne (by decide) (hs_ne (by decide) (hs_ne (by decide) (hs_ne (by decide) rfl)))) ?_
  refine ar_if2t rfl (by decide) ?_
  refine ar_ldA rfl rfl ?_
  refine ar_get rfl (hs_eq (hs_eq (hs_eq (hs_eq rfl)))) rfl ?_
  refine ar_ldA rfl rfl ?_
  refine ar_get rfl (hs_eq (hs_eq (hs_eq (hs_eq rfl)))) rfl ?_
  refine ar_ldI rfl rfl ?_
  refine ar_ldI rfl rfl ?_
  refine ar_inl (mc := 0) (ms := 0) rfl rfl (Nat.le_of_ble_eq_true rfl) (Nat.le_of_ble_eq_true rfl) (by omega) (by omega) ?_
  refine ac_ink [some (.inl 15), some (.inl 0)] mt_111 (Nat.le_of_ble_eq_true rfl) rfl ?_
  refine ar_ldI rfl rfl ?_
  refine ar_push rfl ?_
  refine ar_bink (z := 0) rfl (by decide) ?_
  refine ar_ldI rfl rfl ?_
  refine ar_bink (z := 15) rfl (by decide) ?_
  refine ar_ret rfl rfl ?_
  show aRun _ (aCall Mt _) _ 26 (_, [_, _, _], _, _, _)
  refine ar_ast rfl (hs_ne (by decide) (hs_ne (by decide) (hs_ne (by decide) (hs_ne (by decide) rfl)))) (by decide) (Nat.le_of_ble_eq_true rfl) ?_
  refine ar_ldA rfl rfl ?_
  refine ar_dup rfl rfl ?_
  refine ar_get rfl (hs_ne (by decide) (hs_eq (hs_eq (hs_eq (hs_eq rfl))))) rfl ?_
  refine ar_push rfl ?_
  refine ar_bink (z := 1) rfl (by decide) ?_
  refine ar_put rfl (hs_ne (by decide) (hs_eq (hs_eq (hs_eq (hs_eq rfl))))) (Nat.le_of_ble_eq_true rfl) rfl ?_
  refine ar_ret0 rfl ?_
  show aRun _ (aCall Mt _) _ 21 (_, [], _, _, _)
  refine ar_ret0 rfl ?_
  show aRun _ (aCall Mt _) _ 19 (_, [], _, _, _)
  refine ar_push rfl ?_
  refine ar_svIk [some (.inr (.inr (some 5))), some (.inr (.inr (some 9))), some (.inl 0)] rfl rfl ?_
  refine ar_ldI rfl rfl ?_
  refine ar_ldA rfl rfl ?_
  refine ar_get rfl (hs_eq (hs_ne (by decide) (hs_eq (hs_eq (hs_eq (hs_eq rfl)))))) rfl ?_
  refine ar_if2t rfl (by decide) ?_
  refine ar_ldA rfl rfl ?_
  refine ar_get rfl (hs_eq (hs_ne (by decide) (hs_eq (hs_eq (hs_eq (hs_eq rfl)))))) rfl ?_
  refine ar_push rfl ?_
  refine ar_if2t rfl (by decide) ?_
  refine ar_ldA rfl rfl ?_
  refine ar_get rfl (hs_eq (hs_ne (by decide) (hs_eq (hs_eq (hs_eq (hs_eq rfl)))))) rfl ?_
  refine ar_push rfl ?_
  refine ar_if2t rfl (by decide) ?_
  refine ar_ldA rfl rfl ?_
  refine ar_push rfl ?_
  refine ar_put rfl (hs_eq (hs_ne (by decide) (hs_eq (hs_eq (hs_eq (hs_eq rfl)))))) (Nat.le_of_ble_eq_true rfl) rfl ?_
  refine ar_ldA rfl rfl ?_
  refine ar_get rfl (hs_eq (hs_eq (hs_ne (by decide) (hs_eq (hs_eq (hs_eq (hs_eq rfl))))))) rfl ?_
  refine ar_ret rfl rfl ?_
  show aRun _ (aCall Mt _) _ 20 (_, [_], _, _, _)
  refine ar_svIk [some (.inr (.inr (some 0))), some (.inl 0), some (.inr (.inr (some 9))), some (.inl 0)] rfl rfl ?_
  refine ar_ldI rfl rfl ?_
  refine ar_push rfl ?_
  refine ar_if2f rfl (by decide) ?_
  refine ar_push rfl ?_
  refine ar_ldI rfl rfl ?_
  refine ar_bink (z := (-100)) rfl (by decide) ?_
  refine ar_ret rfl rfl ?_
  refine ⟨_, 0, 0, _, rfl, Nat.zero_le _, Nat.zero_le _, (hs_ne (by decide) (hs_ne (by decide) (hs_ne (by decide) (hs_ne (by decide) (hs_ne (by decide) (hs_ne (by decide) (hs_ne (by decide) rfl))))))), ?_⟩
  refine rgen (((((((rFr_F.sets (by decide)).sets (by decide)).sets (by decide)).sets (by decide)).sets (by decide)).sets (by decide)).sets (by decide)) (fun g hr => ?_)
  refine ac_ink [some (.inr (.inr (some 69))), some (.inl 0), none, none] mt_227 (Nat.le_of_ble_eq_true rfl) rfl ?_
  refine ar_ldI rfl rfl ?_
  refine ar_push rfl ?_
  refine ar_push rfl ?_
  refine ar_callv rfl rfl (Nat.le_of_ble_eq_true rfl) (Nat.le_of_ble_eq_true rfl) rfl (sp_in _ _ _ _ _) ?_
  refine ar_if1t rfl (bi_n0t (by decide)) ?_
  refine ar_ldA rfl rfl ?_
  refine ar_push rfl ?_
  refine ar_put rfl (hr.at 69 (by decide) (by decide) rfl) (Nat.le_of_ble_eq_true rfl) rfl ?_
  refine ar_ldA rfl rfl ?_
  refine ar_push rfl ?_
  refine ar_put rfl (hs_eq (hr.at 69 (by decide) (by decide) rfl)) (Nat.le_of_ble_eq_true rfl) rfl ?_
  refine ar_ldA rfl rfl ?_
  refine ar_push rfl ?_
  refine ar_put rfl (hs_eq (hs_eq (hr.at 69 (by decide) (by decide) rfl))) (Nat.le_of_ble_eq_true rfl) rfl ?_
  refine ar_ldA rfl rfl ?_
  refine ar_push rfl ?_
  refine ar_put rfl (hs_eq (hs_eq (hs_eq (hr.at 69 (by decide) (by decide) rfl)))) (Nat.le_of_ble_eq_true rfl) rfl ?_
  refine ar_ldA rfl rfl ?_
  refine ar_get rfl (hs_eq (hs_eq (hs_eq (hs_eq (hr.at 69 (by decide) (by decide) rfl))))) rfl ?_
  refine ar_push rfl ?_
  refine ar_push rfl ?_
  refine ar_ast rfl (hs_ne (by decide) (hs_ne (by decide) (hs_ne (by decide) (hs_ne (by decide) (hr.at 85 (by decide) (by decide) rfl))))) (by decide) (Nat.le_of_ble_eq_true rfl) ?_
  refine ar_ldA rfl rfl ?_
  refine ar_inl (mc := 0) (ms := 0) rfl (rcv_of (hs_ne (by decide) (hs_eq (hs_eq (hs_eq (hs_eq (hr.at 69 (by decide) (by decide) rfl))))))) (Nat.le_of_ble_eq_true rfl) (Nat.le_of_ble_eq_true rfl) (by omega) (by omega) ?_
  refine ac_ink [some (.inr (.inr (some 69))), none] mt_225 (Nat.le_of_ble_eq_true rfl) rfl ?_
  refine ar_push rfl ?_
  refine ar_ldA rfl rfl ?_
  refine ar_get rfl (hs_ne (by decide) (hs_eq (hs_eq (hs_eq (hs_eq (hr.at 69 (by decide) (by decide) rfl)))))) rfl ?_
  refine ar_push rfl ?_
  refine ar_ald rfl (hs_eq (hs_ne (by decide) (hs_ne (by decide) (hs_ne (by decide) (hs_ne (by decide) (hr.at 85 (by decide) (by decide) rfl)))))) (by decide) rfl ?_
  refine ar_bink (z := 671) rfl (by decide) ?_
  refine ar_svIk [some (.inr (.inr (some 69))), some (.inl 671)] rfl rfl ?_
  refine ar_ldA rfl rfl ?_
  refine ar_get rfl (hs_ne (by decide) (hs_eq (hs_eq (hs_eq (hs_eq (hr.at 69 (by decide) (by decide) rfl)))))) rfl ?_
  refine ar_ldI rfl rfl ?_
  refine ar_ldA rfl rfl ?_
  refine ar_get rfl (hs_ne (by decide) (hs_eq (hs_eq (hs_eq (hs_eq (hr.at 69 (by decide) (by decide) rfl)))))) rfl ?_
  refine ar_un rfl ?_
  refine ar_ast rfl (hs_ne (by decide) (hs_ne (by decide) (hs_ne (by decide) (hs_ne (by decide) (hs_ne (by decide) (hr.at 86 (by decide) (by decide) rfl)))))) (by decide) (Nat.le_of_ble_eq_true rfl) ?_
  refine ar_ldA rfl rfl ?_
  refine ar_inl (mc := 0) (ms := 0) rfl (rcv_of (hs_ne (by decide) (hs_ne (by decide) (hs_eq (hs_eq (hs_eq (hs_eq (hr.at 69 (by decide) (by decide) rfl)))))))) (Nat.le_of_ble_eq_true rfl) (Nat.le_of_ble_eq_true rfl) (by omega) (by omega) ?_
  refine ac_ink [some (.inr (.inr (some 69)))] mt_224 (Nat.le_of_ble_eq_true rfl) rfl ?_
  refine ar_ldA rfl rfl ?_
  refine ar_inl (mc := 0) (ms := 0) rfl (rcv_of (hs_ne (by decide) (hs_ne (by decide) (hs_eq (hs_eq (hs_eq (hs_eq (hr.at 69 (by decide) (by decide) rfl)))))))) (Nat.le_of_ble_eq_true rfl) (Nat.le_of_ble_eq_true rfl) (by omega) (by omega) ?_
  refine ac_ink [some (.inr (.inr (some 69)))] mt_223 (Nat.le_of_ble_eq_true rfl) rfl ?_
  refine ar_ldA rfl rfl ?_
  refine ar_inl (mc := 0) (ms := 0) rfl (rcv_of (hs_ne (by decide) (hs_ne (by decide) (hs_eq (hs_eq (hs_eq (hs_eq (hr.at 69 (by decide) (by decide) rfl)))))))) (Nat.le_of_ble_eq_true rfl) (Nat.le_of_ble_eq_true rfl) (by omega) (by omega) ?_
  refine ac_ink [some (.inr (.inr (some 69))), none] mt_222 (Nat.le_of_ble_eq_true rfl) rfl ?_
  refine ar_ldA rfl rfl ?_
  refine ar_inl (mc := 0) (ms := 0) rfl (rcv_of (hs_ne (by decide) (hs_ne (by decide) (hs_eq (hs_eq (hs_eq (hs_eq (hr.at 69 (by decide) (by decide) rfl)))))))) (Nat.le_of_ble_eq_true rfl) (Nat.le_of_ble_eq_true rfl) (by omega) (by omega) ?_
  refine ac_ink [some (.inr (.inr (some 69))), none] mt_221 (Nat.le_of_ble_eq_true rfl) rfl ?_
  refine ar_ldA rfl rfl ?_
  refine ar_inl (mc := 0) (ms := 0) rfl (rcv_of (hs_ne (by decide) (hs_ne (by decide) (hs_eq (hs_eq (hs_eq (hs_eq (hr.at 69 (by decide) (by decide) rfl)))))))) (Nat.le_of_ble_eq_true rfl) (Nat.le_of_ble_eq_true rfl) (by omega) (by omega) ?_
  refine ac_ink [some (.inr (.inr (some 69))), none] mt_220 (Nat.le_of_ble_eq_true rfl) rfl ?_
  refine ar_ldA rfl rfl ?_
  refine ar_inl (mc := 0) (ms := 0) rfl (rcv_of (hs_ne (by decide) (hs_ne (by decide) (hs_eq (hs_eq (hs_eq (hs_eq (hr.at 69 (by decide) (by decide) rfl)))))))) (Nat.le_of_ble_eq_true rfl) (Nat.le_of_ble_eq_true rfl) (by omega) (by omega) ?_
  refine ac_ink [some (.inr (.inr (some 69))), none] mt_219 (Nat.le_of_ble_eq_true rfl) rfl ?_
  refine ar_ldA rfl rfl ?_
  refine ar_inl (mc := 0) (ms := 0) rfl (rcv_of (hs_ne (by decide) (hs_ne (by decide) (hs_eq (hs_eq (hs_eq (hs_eq (hr.at 69 (by decide) (by decide) rfl)))))))) (Nat.le_of_ble_eq_true rfl) (Nat.le_of_ble_eq_true rfl) (by omega) (by omega) ?_
  refine ac_ink [some (.inr (.inr (some 69)))] mt_213 (Nat.le_of_ble_eq_true rfl) rfl ?_
  refine ar_ldA rfl rfl ?_
  refine ar_get rfl (hs_ne (by decide) (hs_ne (by decide) (hs_eq (hs_eq (hs_eq (hs_eq (hr.at 69 (by decide) (by decide) rfl))))))) rfl ?_
  refine ar_ldA rfl rfl ?_
  refine ar_get rfl (hs_ne (by decide) (hs_ne (by decide) (hs_eq (hs_eq (hs_eq (hs_eq (hr.at 69 (by decide) (by decide) rfl))))))) rfl ?_
  refine ar_if2t rfl (by decide) ?_
  refine ar_push rfl ?_
  refine ar_ret rfl rfl ?_
  show aRun _ (aCall Mt _) _ 4 (_, [_], _, _, _)
  refine ar_svIk [some (.inr (.inr (some 69))), some (.inl (-1))] rfl rfl ?_
  refine ar_ldI rfl rfl ?_
  refine ar_inl (mc := 0) (ms := 0) rfl rfl (Nat.le_of_ble_eq_true rfl) (Nat.le_of_ble_eq_true rfl) (by omega) (by omega) ?_
  refine ac_ink [some (.inl (-1))] mt_216 (Nat.le_of_ble_eq_true rfl) rfl ?_
  refine ar_ldI rfl rfl ?_
  refine ar_tabO rfl (by decide) ?_
  refine ar_push rfl ?_
  refine ar_ret rfl rfl ?_
  show aRun _ (aCall Mt _) _ 9 (_, [_], _, _, _)
  refine ar_if1t rfl (by decide) ?_
  refine ar_ldI rfl rfl ?_
  refine ar_push rfl ?_
  refine ar_if2f rfl (by decide) ?_
  refine ar_ldI rfl rfl ?_
  refine ar_push rfl ?_
  refine ar_if2t rfl (by decide) ?_
  refine ar_ldI rfl rfl ?_
  refine ar_push rfl ?_
  refine ar_if2t rfl (by decide) ?_
  refine ar_ldA rfl rfl ?_
  refine ar_inl (mc := 0) (ms := 0) rfl (rcv_of (hs_ne (by decide) (hs_ne (by decide) (hs_eq (hs_eq (hs_eq (hs_eq (hr.at 69 (by decide) (by decide) rfl)))))))) (Nat.le_of_ble_eq_true rfl) (Nat.le_of_ble_eq_true rfl) (by omega) (by omega) ?_
  refine ac_ink [some (.inr (.inr (some 69))), none, none] mt_218 (Nat.le_of_ble_eq_true rfl) rfl ?_
  refine ar_push rfl ?_
  refine ar_svIk [some (.inr (.inr (some 69))), some (.inl 0), none] rfl rfl ?_
  refine ar_push rfl ?_
  refine ar_svIk [some (.inr (.inr (some 69))), some (.inl 0), some (.inl 0)] rfl rfl ?_
  refine ar_ldI rfl rfl ?_
  refine ar_push rfl ?_
  refine ar_if2f rfl (by decide) ?_
  refine ar_ldA rfl rfl ?_
  refine ar_inl (mc := 0) (ms := 0) rfl (rcv_of (hs_ne (by decide) (hs_ne (by decide) (hs_eq (hs_eq (hs_eq (hs_eq (hr.at 69 (by decide) (by decide) rfl)))))))) (Nat.le_of_ble_eq_true rfl) (Nat.le_of_ble_eq_true rfl) (by omega) (by omega) ?_
  refine ac_ink [some (.inr (.inr (some 69)))] mt_213 (Nat.le_of_ble_eq_true rfl) rfl ?_
  refine ar_ldA rfl rfl ?_
  refine ar_get rfl (hs_ne (by decide) (hs_ne (by decide) (hs_eq (hs_eq (hs_eq (hs_eq (hr.at 69 (by decide) (by decide) rfl))))))) rfl ?_
  refine ar_ldA rfl rfl ?_
  refine ar_get rfl (hs_ne (by decide) (hs_ne (by decide) (hs_eq (hs_eq (hs_eq (hs_eq (hr.at 69 (by decide) (by decide) rfl))))))) rfl ?_
  refine ar_if2t rfl (by decide) ?_
  refine ar_push rfl ?_
  refine ar_ret rfl rfl ?_
  show aRun _ (aCall Mt _) _ 14 (_, [_], _, _, _)
  refine ar_push rfl ?_
  refine ar_push rfl ?_
  refine ar_callv rfl rfl (Nat.le_of_ble_eq_true rfl) (Nat.le_of_ble_eq_true rfl) rfl (sp_in _ _ _ _ _) ?_
  refine ar_if1t rfl (bi_e0t (by decide)) ?_
  refine ar_ldI rfl rfl ?_
  refine ar_if1t rfl (by decide) ?_
  refine ar_ldA rfl rfl ?_
  refine ar_inl (mc := 0) (ms := 0) rfl (rcv_of (hs_ne (by decide) (hs_ne (by decide) (hs_eq (hs_eq (hs_eq (hs_eq (hr.at 69 (by decide) (by decide) rfl)))))))) (Nat.le_of_ble_eq_true rfl) (Nat.le_of_ble_eq_true rfl) (by omega) (by omega) ?_
  refine ac_ink [some (.inr (.inr (some 69)))] mt_214 (Nat.le_of_ble_eq_true rfl) rfl ?_
  refine ar_ldA rfl rfl ?_
  refine ar_get rfl (hs_ne (by decide) (hs_ne (by decide) (hs_eq (hs_eq (hs_eq (hs_eq (hr.at 69 (by decide) (by decide) rfl))))))) rfl ?_
  refine ar_if1f rfl (by decide) ?_
  refine ar_ldA rfl rfl ?_
  refine ar_ldA rfl rfl ?_
  refine ar_get rfl (hs_ne (by decide) (hs_ne (by decide) (hs_eq (hs_eq (hs_eq (hs_eq (hr.at 69 (by decide) (by decide) rfl))))))) rfl ?_
  refine ar_put rfl (hs_ne (by decide) (hs_ne (by decide) (hs_eq (hs_eq (hs_eq (hs_eq (hr.at 69 (by decide) (by decide) rfl))))))) (Nat.le_of_ble_eq_true rfl) rfl ?_
  refine ar_ret0 rfl ?_
  show aRun _ (aCall Mt _) _ 75 (_, [], _, _, _)
  refine ar_ldA rfl rfl ?_
  refine ar_push rfl ?_
  refine ar_ldI rfl rfl ?_
  refine ar_inl (mc := 0) (ms := 0) rfl (rcv_of (hs_eq (hs_ne (by decide) (hs_ne (by decide) (hs_eq (hs_eq (hs_eq (hs_eq (hr.at 69 (by decide) (by decide) rfl))))))))) (Nat.le_of_ble_eq_true rfl) (Nat.le_of_ble_eq_true rfl) (by omega) (by omega) ?_
  refine ac_ink [some (.inr (.inr (some 69))), some (.inl 1), some (.inl 0)] mt_215 (Nat.le_of_ble_eq_true rfl) rfl ?_
  refine ar_ldA rfl rfl ?_
  refine ar_get rfl (hs_eq (hs_ne (by decide) (hs_ne (by decide) (hs_eq (hs_eq (hs_eq (hs_eq (hr.at 69 (by decide) (by decide) rfl)))))))) rfl ?_
  refine ar_push rfl ?_
  refine ar_ldA rfl rfl ?_
  refine ar_get rfl (hs_eq (hs_ne (by decide) (hs_ne (by decide) (hs_eq (hs_eq (hs_eq (hs_eq (hr.at 69 (by decide) (by decide) rfl)))))))) rfl ?_
  refine ar_bink (z := 1430) rfl (by decide) ?_
  refine ar_ldI rfl rfl ?_
  refine ar_un rfl ?_
  refine ar_ast rfl (hs_ne (by decide) (hs_ne (by decide) (hs_ne (by decide) (hs_ne (by decide) (hs_ne (by decide) (hs_ne (by decide) (hs_ne (by decide) (hr.at 83 (by decide) (by decide) rfl)))))))) (by decide) (Nat.le_of_ble_eq_true rfl) ?_
  refine ar_ldA rfl rfl ?_
  refine ar_get rfl (hs_ne (by decide) (hs_eq (hs_ne (by decide) (hs_ne (by decide) (hs_eq (hs_eq (hs_eq (hs_eq (hr.at 69 (by decide) (by decide) rfl))))))))) rfl ?_
  refine ar_push rfl ?_
  refine ar_ldA rfl rfl ?_
  refine ar_get rfl (hs_ne (by decide) (hs_eq (hs_ne (by decide) (hs_ne (by decide) (hs_eq (hs_eq (hs_eq (hs_eq (hr.at 69 (by decide) (by decide) rfl))))))))) rfl ?_
  refine ar_bink (z := 1430) rfl (by decide) ?_
  refine ar_ldI rfl rfl ?_
  refine ar_ast rfl (hs_ne (by decide) (hs_ne (by decide) (hs_ne (by decide) (hs_ne (by decide) (hs_ne (by decide) (hs_ne (by decide) (hs_ne (by decide) (hs_ne (by decide) (hr.at 84 (by decide) (by decide) rfl))))))))) (by decide) (Nat.le_of_ble_eq_true rfl) ?_
  refine ar_ldA rfl rfl ?_
  refine ar_dup rfl rfl ?_
  refine ar_get rfl (hs_ne (by decide) (hs_ne (by decide) (hs_eq (hs_ne (by decide) (hs_ne (by decide) (hs_eq (hs_eq (hs_eq (hs_eq (hr.at 69 (by decide) (by decide) rfl)))))))))) rfl ?_
  refine ar_push rfl ?_
  refine ar_bink (z := 1) rfl (by decide) ?_
  refine ar_put rfl (hs_ne (by decide) (hs_ne (by decide) (hs_eq (hs_ne (by decide) (hs_ne (by decide) (hs_eq (hs_eq (hs_eq (hs_eq (hr.at 69 (by decide) (by decide) rfl)))))))))) (Nat.le_of_ble_eq_true rfl) rfl ?_
  refine ar_ret0 rfl ?_
  show aRun _ (aCall Mt _) _ 81 (_, [], _, _, _)
  refine ar_ret0 rfl ?_
  show aRun _ (aCall Mt _) _ 154 (_, [], _, _, _)
  refine ar_ret0 rfl ?_
  show aRun _ (aCall Mt _) _ 4 (_, [], _, _, _)
  refine ar_ldA rfl rfl ?_
  refine ar_get rfl (hs_eq (hs_ne (by decide) (hs_ne (by decide) (hs_eq (hs_ne (by decide) (hs_ne (by decide) (hs_eq (hs_eq (hs_eq (hs_eq (hr.at 69 (by decide) (by decide) rfl))))))))))) rfl ?_
  refine ar_if1t rfl (by decide) ?_
  refine ar_ret0 rfl ?_
  show aRun _ (aCall Mt _) _ 4 (_, [], _, _, _)
  refine ar_ldA rfl rfl ?_
  refine ar_get rfl (hs_eq (hs_ne (by decide) (hs_ne (by decide) (hs_eq (hs_ne (by decide) (hs_ne (by decide) (hs_eq (hs_eq (hs_eq (hs_eq (hr.at 69 (by decide) (by decide) rfl))))))))))) rfl ?_
  refine ar_if1t rfl (by decide) ?_
  refine ar_ret0 rfl ?_
  show aRun _ (aCall Mt _) _ 4 (_, [], _, _, _)
  refine ar_ldA rfl rfl ?_
  refine ar_inl (mc := 0) (ms := 0) rfl (rcv_of (hs_eq (hs_ne (by decide) (hs_ne (by decide) (hs_eq (hs_ne (by decide) (hs_ne (by decide) (hs_eq (hs_eq (hs_eq (hs_eq (hr.at 69 (by decide) (by decide) rfl)))))))))))) (Nat.le_of_ble_eq_true rfl) (Nat.le_of_ble_eq_true rfl) (by omega) (by omega) ?_
  refine ac_ink [some (.inr (.inr (some 69)))] mt_213 (Nat.le_of_ble_eq_true rfl) rfl ?_
  refine ar_ldA rfl rfl ?_
  refine ar_get rfl (hs_eq (hs_ne (by decide) (hs_ne (by decide) (hs_eq (hs_ne (by decide) (hs_ne (by decide) (hs_eq (hs_eq (hs_eq (hs_eq (hr.at 69 (by decide) (by decide) rfl))))))))))) rfl ?_
  refine ar_ldA rfl rfl ?_
  refine ar_get rfl (hs_eq (hs_ne (by decide) (hs_ne (by decide) (hs_eq (hs_ne (by decide) (hs_ne (by decide) (hs_eq (hs_eq (hs_eq (hs_eq (hr.at 69 (by decide) (by decide) rfl))))))))))) rfl ?_
  refine ar_if2t rfl (by decide) ?_
  refine ar_push rfl ?_
  refine ar_ret rfl rfl ?_
  show aRun _ (aCall Mt _) _ 8 (_, [_], _, _, _)
  refine ar_svIk [some (.inr (.inr (some 69))), some (.inl (-1))] rfl rfl ?_
  refine ar_ldA rfl rfl ?_
  refine ar_get rfl (hs_eq (hs_ne (by decide) (hs_ne (by decide) (hs_eq (hs_ne (by decide) (hs_ne (by decide) (hs_eq (hs_eq (hs_eq (hs_eq (hr.at 69 (by decide) (by decide) rfl))))))))))) rfl ?_
  refine ar_if1t rfl (by decide) ?_
  refine ar_ret0 rfl ?_
  show aRun _ (aCall Mt _) _ 4 (_, [], _, _, _)
  refine ar_ldA rfl rfl ?_
  refine ar_get rfl (hs_eq (hs_ne (by decide) (hs_ne (by decide) (hs_eq (hs_ne (by decide) (hs_ne (by decide) (hs_eq (hs_eq (hs_eq (hs_eq (hr.at 69 (by decide) (by decide) rfl))))))))))) rfl ?_
  refine ar_if1t rfl (by decide) ?_
  refine ar_ret0 rfl ?_
  show aRun _ (aCall Mt _) _ 4 (_, [], _, _, _)
  refine ar_ldA rfl rfl ?_
  refine ar_get rfl (hs_eq (hs_ne (by decide) (hs_ne (by decide) (hs_eq (hs_ne (by decide) (hs_ne (by decide) (hs_eq (hs_eq (hs_eq (hs_eq (hr.at 69 (by decide) (by decide) rfl))))))))))) rfl ?_
  refine ar_if1t rfl (by decide) ?_
  refine ar_ret0 rfl ?_
  show aRun _ (aCall Mt _) _ 27 (_, [], _, _, _)
  refine ar_ldA rfl rfl ?_
  refine ar_get rfl (hs_eq (hs_ne (by decide) (hs_ne (by decide) (hs_eq (hs_ne (by decide) (hs_ne (by decide) (hs_eq (hs_eq (hs_eq (hs_eq (hr.at 69 (by decide) (by decide) rfl))))))))))) rfl ?_
  refine ar_if1t rfl (by decide) ?_
  refine ar_ldA rfl rfl ?_
  refine ar_get rfl (hs_eq (hs_ne (by decide) (hs_ne (by decide) (hs_eq (hs_ne (by decide) (hs_ne (by decide) (hs_eq (hs_eq (hs_eq (hs_eq (hr.at 69 (by decide) (by decide) rfl))))))))))) rfl ?_
  refine ar_ldI rfl rfl ?_
  refine ar_ldA rfl rfl ?_
  refine ar_get rfl (hs_eq (hs_ne (by decide) (hs_ne (by decide) (hs_eq (hs_ne (by decide) (hs_ne (by decide) (hs_eq (hs_eq (hs_eq (hs_eq (hr.at 69 (by decide) (by decide) rfl))))))))))) rfl ?_
  refine ar_un rfl ?_
  refine ar_ast rfl (hs_ne (by decide) (hs_ne (by decide) (hs_ne (by decide) (hs_ne (by decide) (hs_ne (by decide) (hs_ne (by decide) (hs_ne (by decide) (hs_ne (by decide) (hs_ne (by decide) (hs_ne (by decide) (hr.at 87 (by decide) (by decide) rfl))))))))))) (by decide) (Nat.le_of_ble_eq_true rfl) ?_
  refine ar_ldA rfl rfl ?_
  refine ar_get rfl (hs_ne (by decide) (hs_eq (hs_ne (by decide) (hs_ne (by decide) (hs_eq (hs_ne (by decide) (hs_ne (by decide) (hs_eq (hs_eq (hs_eq (hs_eq (hr.at 69 (by decide) (by decide) rfl)))))))))))) rfl ?_
  refine ar_push rfl ?_
  refine ar_dup2 rfl rfl rfl ?_
  refine ar_ald rfl (hs_ne (by decide) (hs_ne (by decide) (hs_ne (by decide) (hs_ne (by decide) (hs_ne (by decide) (hs_ne (by decide) (hs_eq (hs_ne (by decide) (hs_ne (by decide) (hs_ne (by decide) (hs_ne (by decide) (hr.at 85 (by decide) (by decide) rfl)))))))))))) (by decide) rfl ?_
  refine ar_push rfl ?_
  refine ar_bink (z := 1) rfl (by decide) ?_
  refine ar_ast rfl (hs_ne (by decide) (hs_ne (by decide) (hs_ne (by decide) (hs_ne (by decide) (hs_ne (by decide) (hs_ne (by decide) (hs_eq (hs_ne (by decide) (hs_ne (by decide) (hs_ne (by decide) (hs_ne (by decide) (hr.at 85 (by decide) (by decide) rfl)))))))))))) (by decide) (Nat.le_of_ble_eq_true rfl) ?_
  refine ar_ret0 rfl ?_
  show aRun _ (aCall Mt _) _ 54 (_, [], _, _, _)
  refine ar_ldA rfl rfl ?_
  refine ar_get rfl (hs_ne (by decide) (hs_ne (by decide) (hs_eq (hs_ne (by decide) (hs_ne (by decide) (hs_eq (hs_ne (by decide) (hs_ne (by decide) (hs_eq (hs_eq (hs_eq (hs_eq (hr.at 69 (by decide) (by decide) rfl))))))))))))) rfl ?_
  refine ar_if1t rfl (by decide) ?_
  refine ar_ldA rfl rfl ?_
  refine ar_get rfl (hs_ne (by decide) (hs_ne (by decide) (hs_eq (hs_ne (by decide) (hs_ne (by decide) (hs_eq (hs_ne (by decide) (hs_ne (by decide) (hs_eq (hs_eq (hs_eq (hs_eq (hr.at 69 (by decide) (by decide) rfl))))))))))))) rfl ?_
  refine ar_if1t rfl (by decide) ?_
  refine ar_ldA rfl rfl ?_
  refine ar_push rfl ?_
  refine ar_put rfl (hs_ne (by decide) (hs_ne (by decide) (hs_eq (hs_ne (by decide) (hs_ne (by decide) (hs_eq (hs_ne (by decide) (hs_ne (by decide) (hs_eq (hs_eq (hs_eq (hs_eq (hr.at 69 (by decide) (by decide) rfl))))))))))))) (Nat.le_of_ble_eq_true rfl) rfl ?_
  refine ar_ldA rfl rfl ?_
  refine ar_get rfl (hs_eq (hs_ne (by decide) (hs_ne (by decide) (hs_eq (hs_ne (by decide) (hs_ne (by decide) (hs_eq (hs_ne (by decide) (hs_ne (by decide) (hs_eq (hs_eq (hs_eq (hs_eq (hr.at 69 (by decide) (by decide) rfl)))))))))))))) rfl ?_
  refine ar_if1f rfl (by decide) ?_
  refine ar_push rfl ?_
  refine ar_ldA rfl rfl ?_
  refine ar_get rfl (hs_eq (hs_ne (by decide) (hs_ne (by decide) (hs_eq (hs_ne (by decide) (hs_ne (by decide) (hs_eq (hs_ne (by decide) (hs_ne (by decide) (hs_eq (hs_eq (hs_eq (hs_eq (hr.at 69 (by decide) (by decide) rfl)))))))))))))) rfl ?_
  refine ar_bink (z := (-100)) rfl (by decide) ?_
  refine ar_ret rfl rfl ?_
  exact ⟨rfl, hJ _ _ _⟩
set_option maxRecDepth 20000 in
set_option maxHeartbeats 4000000 in
theorem p1_7_1 (J : aH → Nat → Nat → Prop) (hJ : ∀ h a b, J h a b) (kc ks : Nat) (hkc : 1000 ≤ kc) (hks : 100000 ≤ ks) : aPairI 0 69 131 227 [.inl 1] J hF kc ks := by
  refine ⟨0, 0, _, by omega, by omega, rfl, ?_⟩
  refine ac_ink [some (.inr (.inr (some 0))), some (.inl 1), none, none] mt_131 (Nat.le_of_ble_eq_true rfl) rfl ?_
  refine ar_ldA rfl rfl ?_
  refine ar_ldI rfl rfl ?_
  refine ar_inl (mc := 0) (ms := 0) rfl (rcv_of rfl) (Nat.le_of_ble_eq_true rfl) (Nat.le_of_ble_eq_true rfl) (by omega) (by omega) ?_
  refine ac_ink [some (.inr (.inr (some 0))), some (.inl 1)] mt_166 (Nat.le_of_ble_eq_true rfl) rfl ?_
  refine ar_ldI rfl rfl ?_
  refine ar_if1t rfl (by decide) ?_
  refine ar_ldI rfl rfl ?_
  refine ar_push rfl ?_
  refine ar_if2f rfl (by decide) ?_
  refine ar_ldA rfl rfl ?_
  refine ar_get rfl rfl rfl ?_
  refine ar_get rfl rfl rfl ?_
  refine ar_ret rfl rfl ?_
  show aRun _ (aCall Mt _) _ 5 (_, [_], _, _, _)
  refine ar_svAk [some (.inr (.inr (some 0))), some (.inl 1), some (.inr (.inr (some 11))), none] rfl rfl ?_
  refine ar_ldA rfl rfl ?_
  refine ar_nulS rfl ?_
  refine ar_ldA rfl rfl ?_
  refine ar_get rfl rfl rfl ?_
  refine ar_ldA rfl rfl ?_
  refine ar_inl (mc := 0) (ms := 0) rfl (rcv_of rfl) (Nat.le_of_ble_eq_true rfl) (Nat.le_of_ble_eq_true rfl) (by omega) (by omega) ?_
  refine ac_ink [some (.inr (.inr (some 5))), some (.inr (.inr (some 11))), none] mt_94 (Nat.le_of_ble_eq_true rfl) rfl ?_
  refine ar_ldA rfl rfl ?_
  refine ar_push rfl ?_
  refine ar_put rfl rfl (Nat.le_of_ble_eq_true rfl) rfl ?_
  refine ar_ldA rfl rfl ?_
  refine ar_push rfl ?_
  refine ar_put rfl (hs_eq rfl) (Nat.le_of_ble_eq_true rfl) rfl ?_
  refine ar_ldA rfl rfl ?_
  refine ar_push rfl ?_
  refine ar_put rfl (hs_eq (hs_eq rfl)) (Nat.le_of_ble_eq_true rfl) rfl ?_
  refine ar_ldA rfl rfl ?_
  refine ar_inl (mc := 0) (ms := 0) rfl (rcv_of (hs_eq (hs_eq (hs_eq rfl)))) (Nat.le_of_ble_eq_true rfl) (Nat.le_of_ble_eq_true rfl) (by omega) (by omega) ?_
  refine ac_ink [some (.inr (.inr (some 5))), none] mt_100 (Nat.le_of_ble_eq_true rfl) rfl ?_
  refine ar_ldA rfl rfl ?_
  refine ar_push rfl ?_
  refine ar_inl (mc := 0) (ms := 0) rfl (rcv_of (hs_eq (hs_eq (hs_eq rfl)))) (Nat.le_of_ble_eq_true rfl) (Nat.le_of_ble_eq_true rfl) (by omega) (by omega) ?_
  refine ac_ink [some (.inr (.inr (some 5))), some (.inl 0), none] mt_101 (Nat.le_of_ble_eq_true rfl) rfl ?_
  refine ar_ldA rfl rfl ?_
  refine ar_ldI rfl rfl ?_
  refine ar_inl (mc := 0) (ms := 0) rfl (rcv_of (hs_eq (hs_eq (hs_eq rfl)))) (Nat.le_of_ble_eq_true rfl) (Nat.le_of_ble_eq_true rfl) (by omega) (by omega) ?_
  refine ac_ink [some (.inr (.inr (some 5))), some (.inl 0), none] mt_102 (Nat.le_of_ble_eq_true rfl) rfl ?_
  refine ar_ldA rfl rfl ?_
  refine ar_ldI rfl rfl ?_
  refine ar_inl (mc := 0) (ms := 0) rfl (rcv_of (hs_eq (hs_eq (hs_eq rfl)))) (Nat.le_of_ble_eq_true rfl) (Nat.le_of_ble_eq_true rfl) (by omega) (by omega) ?_
  refine ac_ink [some (.inr (.inr (some 5))), some (.inl 0), none] mt_103 (Nat.le_of_ble_eq_true rfl) rfl ?_
  refine ar_ldA rfl rfl ?_
  refine ar_ldI rfl rfl ?_
  refine ar_inl (mc := 0) (ms := 0) rfl (rcv_of (hs_eq (hs_eq (hs_eq rfl)))) (Nat.le_of_ble_eq_true rfl) (Nat.le_of_ble_eq_true rfl) (by omega) (by omega) ?_
  refine ac_ink [some (.inr (.inr (some 5))), some (.inl 0), none, none] mt_104 (Nat.le_of_ble_eq_true rfl) rfl ?_
  refine ar_ldA rfl rfl ?_
  refine ar_ldI rfl rfl ?_
  refine ar_inl (mc := 0) (ms := 0) rfl (rcv_of (hs_eq (hs_eq (hs_eq rfl)))) (Nat.le_of_ble_eq_true rfl) (Nat.le_of_ble_eq_true rfl) (by omega) (by omega) ?_
  refine ac_ink [some (.inr (.inr (some 5))), some (.inl 0), none, none] mt_105 (Nat.le_of_ble_eq_true rfl) rfl ?_
  refine ar_ldA rfl rfl ?_
  refine ar_ldI rfl rfl ?_
  refine ar_inl (mc := 0) (ms := 0) rfl (rcv_of (hs_eq (hs_eq (hs_eq rfl)))) (Nat.le_of_ble_eq_true rfl) (Nat.le_of_ble_eq_true rfl) (by omega) (by omega) ?_
  refine ac_ink [some (.inr (.inr (some 5))), some (.inl 0), none] mt_106 (Nat.le_of_ble_eq_true rfl) rfl ?_
  refine ar_ldA rfl rfl ?_
  refine ar_inl (mc := 0) (ms := 0) rfl (rcv_of (hs_eq (hs_eq (hs_eq rfl)))) (Nat.le_of_ble_eq_true rfl) (Nat.le_of_ble_eq_true rfl) (by omega) (by omega) ?_
  refine ac_ink [some (.inr (.inr (some 5)))] mt_95 (Nat.le_of_ble_eq_true rfl) rfl ?_
  refine ar_ldA rfl rfl ?_
  refine ar_get rfl (hs_eq (hs_eq (hs_eq rfl))) rfl ?_
  refine ar_if1f rfl (by decide) ?_
  refine ar_ldA rfl rfl ?_
  refine ar_get rfl (hs_eq (hs_eq (hs_eq rfl))) rfl ?_
  refine ar_ldA rfl rfl ?_
  refine ar_get rfl (hs_eq (hs_eq (hs_eq rfl))) rfl ?_
  refine ar_if2t rfl (by decide) ?_
  refine ar_push rfl ?_
  refine ar_ret rfl rfl ?_
  show aRun _ (aCall Mt _) _ 4 (_, [_], _, _, _)
  refine ar_svIk [some (.inr (.inr (some 5))), some (.inl 0), some (.inl (-1))] rfl rfl ?_
  refine ar_ldI rfl rfl ?_
  refine ar_push rfl ?_
  refine ar_push rfl ?_
  refine ar_callv rfl rfl (Nat.le_of_ble_eq_true rfl) (Nat.le_of_ble_eq_true rfl) rfl (sp_within _ _ _ _ _) ?_
  refine ar_if1t rfl (bi_e0t (by decide)) ?_
  refine ar_ldI rfl rfl ?_
  refine ar_push rfl ?_
  refine ar_push rfl ?_
  refine ar_callv rfl rfl (Nat.le_of_ble_eq_true rfl) (Nat.le_of_ble_eq_true rfl) rfl (sp_within _ _ _ _ _) ?_
  refine ar_if1t rfl (bi_e0t (by decide)) ?_
  refine ar_ldI rfl rfl ?_
  refine ar_push rfl ?_
  refine ar_if2t rfl (by decide) ?_
  refine ar_ldA rfl rfl ?_
  refine ar_push rfl ?_
  refine ar_inl (mc := 0) (ms := 0) rfl (rcv_of (hs_eq (hs_eq (hs_eq rfl)))) (Nat.le_of_ble_eq_true rfl) (Nat.le_of_ble_eq_true rfl) (by omega) (by omega) ?_
  refine ac_ink [some (.inr (.inr (some 5))), some (.inl 40)] mt_96 (Nat.le_of_ble_eq_true rfl) rfl ?_
  refine ar_ldA rfl rfl ?_
  refine ar_inl (mc := 0) (ms := 0) rfl (rcv_of (hs_eq (hs_eq (hs_eq rfl)))) (Nat.le_of_ble_eq_true rfl) (Nat.le_of_ble_eq_true rfl) (by omega) (by omega) ?_
  refine ac_ink [some (.inr (.inr (some 5)))] mt_95 (Nat.le_of_ble_eq_true rfl) rfl ?_
  refine ar_ldA rfl rfl ?_
  refine ar_get rfl (hs_eq (hs_eq (hs_eq rfl))) rfl ?_
  refine ar_if1f rfl (by decide) ?_
  refine ar_ldA rfl rfl ?_
  refine ar_get rfl (hs_eq (hs_eq (hs_eq rfl))) rfl ?_
  refine ar_ldA rfl rfl ?_
  refine ar_get rfl (hs_eq (hs_eq (hs_eq rfl))) rfl ?_
  refine ar_if2t rfl (by decide) ?_
  refine ar_push rfl ?_
  refine ar_ret rfl rfl ?_
  show aRun _ (aCall Mt _) _ 4 (_, [_], _, _, _)
  refine ar_ldI rfl rfl ?_
  refine ar_if2f rfl (by decide) ?_
  refine ar_push rfl ?_
  refine ar_ret rfl rfl ?_
  show aRun _ (aCall Mt _) _ 88 (_, [_], _, _, _)
  refine ar_if1t rfl (by decide) ?_
  refine ar_ldA rfl rfl ?_
  refine ar_push rfl ?_
  refine ar_inl (mc := 0) (ms := 0) rfl (rcv_of (hs_eq (hs_eq (hs_eq rfl)))) (Nat.le_of_ble_eq_true rfl) (Nat.le_of_ble_eq_true rfl) (by omega) (by omega) ?_
  refine ac_ink [some (.inr (.inr (some 5))), some (.inl 33)] mt_96 (Nat.le_of_ble_eq_true rfl) rfl ?_
  refine ar_ldA rfl rfl ?_
  refine ar_inl (mc := 0) (ms := 0) rfl (rcv_of (hs_eq (hs_eq (hs_eq rfl)))) (Nat.le_of_ble_eq_true rfl) (Nat.le_of_ble_eq_true rfl) (by omega) (by omega) ?_
  refine ac_ink [some (.inr (.inr (some 5)))] mt_95 (Nat.le_of_ble_eq_true rfl) rfl ?_
  refine ar_ldA rfl rfl ?_
  refine ar_get rfl (hs_eq (hs_eq (hs_eq rfl))) rfl ?_
  refine ar_if1f rfl (by decide) ?_
  refine ar_ldA rfl rfl ?_
  refine ar_get rfl (hs_eq (hs_eq (hs_eq rfl))) rfl ?_
  refine ar_ldA rfl rfl ?_
  refine ar_get rfl (hs_eq (hs_eq (hs_eq rfl))) rfl ?_
  refine ar_if2t rfl (by decide) ?_
  refine ar_push rfl ?_
  refine ar_ret rfl rfl ?_
  show aRun _ (aCall Mt _) _ 4 (_, [_], _, _, _)
  refine ar_ldI rfl rfl ?_
  refine ar_if2f rfl (by decide) ?_
  refine ar_push rfl ?_
  refine ar_ret rfl rfl ?_
  show aRun _ (aCall Mt _) _ 120 (_, [_], _, _, _)
  refine ar_if1t rfl (by decide) ?_
  refine ar_ldA rfl rfl ?_
  refine ar_push rfl ?_
  refine ar_inl (mc := 0) (ms := 0) rfl (rcv_of (hs_eq (hs_eq (hs_eq rfl)))) (Nat.le_of_ble_eq_true rfl) (Nat.le_of_ble_eq_true rfl) (by omega) (by omega) ?_
  refine ac_ink [some (.inr (.inr (some 5))), some (.inl 45)] mt_96 (Nat.le_of_ble_eq_true rfl) rfl ?_
  refine ar_ldA rfl rfl ?_
  refine ar_inl (mc := 0) (ms := 0) rfl (rcv_of (hs_eq (hs_eq (hs_eq rfl)))) (Nat.le_of_ble_eq_true rfl) (Nat.le_of_ble_eq_true rfl) (by omega) (by omega) ?_
  refine ac_ink [some (.inr (.inr (some 5)))] mt_95 (Nat.le_of_ble_eq_true rfl) rfl ?_
  refine ar_ldA rfl rfl ?_
  refine ar_get rfl (hs_eq (hs_eq (hs_eq rfl))) rfl ?_
  refine ar_if1f rfl (by decide) ?_
  refine ar_ldA rfl rfl ?_
  refine ar_get rfl (hs_eq (hs_eq (hs_eq rfl))) rfl ?_
  refine ar_ldA rfl rfl ?_
  refine ar_get rfl (hs_eq (hs_eq (hs_eq rfl))) rfl ?_
  refine ar_if2t rfl (by decide) ?_
  refine ar_push rfl ?_
  refine ar_ret rfl rfl ?_
  show aRun _ (aCall Mt _) _ 4 (_, [_], _, _, _)
  refine ar_ldI rfl rfl ?_
  refine ar_if2f rfl (by decide) ?_
  refine ar_push rfl ?_
  refine ar_ret rfl rfl ?_
  show aRun _ (aCall Mt _) _ 145 (_, [_], _, _, _)
  refine ar_if1t rfl (by decide) ?_
  refine ar_ldA rfl rfl ?_
  refine ar_inl (mc := 0) (ms := 0) rfl (rcv_of (hs_eq (hs_eq (hs_eq rfl)))) (Nat.le_of_ble_eq_true rfl) (Nat.le_of_ble_eq_true rfl) (by omega) (by omega) ?_
  refine ac_ink [some (.inr (.inr (some 5)))] mt_99 (Nat.le_of_ble_eq_true rfl) rfl ?_
  refine ar_ldA rfl rfl ?_
  refine ar_get rfl (hs_eq (hs_eq (hs_eq rfl))) rfl ?_
  refine ar_push rfl ?_
  refine ar_if2f rfl (by decide) ?_
  refine ar_ldA rfl rfl ?_
  refine ar_ldA rfl rfl ?_
  refine ar_get rfl (hs_eq (hs_eq (hs_eq rfl))) rfl ?_
  refine ar_put rfl (hs_eq (hs_eq (hs_eq rfl))) (Nat.le_of_ble_eq_true rfl) rfl ?_
  refine ar_ret0 rfl ?_
  show aRun _ (aCall Mt _) _ 168 (_, [], _, _, _)
  refine ar_ret0 rfl ?_
  show aRun _ (aCall Mt _) _ 5 (_, [], _, _, _)
  refine ar_push rfl ?_
  refine ar_svIk [some (.inr (.inr (some 5))), some (.inl 0), some (.inl 0), none] rfl rfl ?_
  refine ar_ldI rfl rfl ?_
  refine ar_ldA rfl rfl ?_
  refine ar_get rfl (hs_eq (hs_eq (hs_eq (hs_eq rfl)))) rfl ?_
  refine ar_if2t rfl (by decide) ?_
  refine ar_ret0 rfl ?_
  show aRun _ (aCall Mt _) _ 5 (_, [], _, _, _)
  refine ar_push rfl ?_
  refine ar_svIk [some (.inr (.inr (some 5))), some (.inl 0), some (.inl 0), none] rfl rfl ?_
  refine ar_ldI rfl rfl ?_
  refine ar_ldA rfl rfl ?_
  refine ar_get rfl (hs_eq (hs_eq (hs_eq (hs_eq rfl)))) rfl ?_
  refine ar_if2t rfl (by decide) ?_
  refine ar_ret0 rfl ?_
  show aRun _ (aCall Mt _) _ 5 (_, [], _, _, _)
  refine ar_ldA rfl rfl ?_
  refine ar_push rfl ?_
  refine ar_inl (mc := 0) (ms := 0) rfl (rcv_of (hs_eq (hs_eq (hs_eq (hs_eq rfl))))) (Nat.le_of_ble_eq_true rfl) (Nat.le_of_ble_eq_true rfl) (by omega) (by omega) ?_
  refine ac_ink [some (.inr (.inr (some 5))), some (.inl 60)] mt_97 (Nat.le_of_ble_eq_true rfl) rfl ?_
  refine ar_ldA rfl rfl ?_
  refine ar_get rfl (hs_eq (hs_eq (hs_eq (hs_eq rfl)))) rfl ?_
  refine ar_push rfl ?_
  refine ar_if2t rfl (by decide) ?_
  refine ar_push rfl ?_
  refine ar_ret rfl rfl ?_
  show aRun _ (aCall Mt _) _ 11 (_, [_], _, _, _)
  refine ar_if1t rfl (by decide) ?_
  refine ar_ldA rfl rfl ?_
  refine ar_push rfl ?_
  refine ar_inl (mc := 0) (ms := 0) rfl (rcv_of (hs_eq (hs_eq (hs_eq (hs_eq rfl))))) (Nat.le_of_ble_eq_true rfl) (Nat.le_of_ble_eq_true rfl) (by omega) (by omega) ?_
  refine ac_ink [some (.inr (.inr (some 5))), some (.inl 61)] mt_97 (Nat.le_of_ble_eq_true rfl) rfl ?_
  refine ar_ldA rfl rfl ?_
  refine ar_get rfl (hs_eq (hs_eq (hs_eq (hs_eq rfl)))) rfl ?_
  refine ar_push rfl ?_
  refine ar_if2t rfl (by decide) ?_
  refine ar_push rfl ?_
  refine ar_ret rfl rfl ?_
  show aRun _ (aCall Mt _) _ 25 (_, [_], _, _, _)
  refine ar_if1t rfl (by decide) ?_
  refine ar_ldA rfl rfl ?_
  refine ar_push rfl ?_
  refine ar_inl (mc := 0) (ms := 0) rfl (rcv_of (hs_eq (hs_eq (hs_eq (hs_eq rfl))))) (Nat.le_of_ble_eq_true rfl) (Nat.le_of_ble_eq_true rfl) (by omega) (by omega) ?_
  refine ac_ink [some (.inr (.inr (some 5))), some (.inl 62)] mt_97 (Nat.le_of_ble_eq_true rfl) rfl ?_
  refine ar_ldA rfl rfl ?_
  refine ar_get rfl (hs_eq (hs_eq (hs_eq (hs_eq rfl)))) rfl ?_
  refine ar_push rfl ?_
  refine ar_if2t rfl (by decide) ?_
  refine ar_push rfl ?_
  refine ar_ret rfl rfl ?_
  show aRun _ (aCall Mt _) _ 39 (_, [_], _, _, _)
  refine ar_if1t rfl (by decide) ?_
  refine ar_push rfl ?_
  refine ar_svIk [some (.inr (.inr (some 5))), some (.inl 0), some (.inl 15)] rfl rfl ?_
  refine ar_ldI rfl rfl ?_
  refine ar_push rfl ?_
  refine ar_if2f rfl (by decide) ?_
  refine ar_ret0 rfl ?_
  show aRun _ (aCall Mt _) _ 5 (_, [], _, _, _)
  refine ar_push rfl ?_
  refine ar_svIk [some (.inr (.inr (some 5))), some (.inl 0), some (.inl 0)] rfl rfl ?_
  refine ar_ldI rfl rfl ?_
  refine ar_ldA rfl rfl ?_
  refine ar_get rfl (hs_eq (hs_eq (hs_eq (hs_eq rfl)))) rfl ?_
  refine ar_if2t rfl (by decide) ?_
  refine ar_ret0 rfl ?_
  show aRun _ (aCall Mt _) _ 5 (_, [], _, _, _)
  refine ar_push rfl ?_
  refine ar_svIk [some (.inr (.inr (some 5))), some (.inl 0), some (.inl 0)] rfl rfl ?_
  refine ar_ldI rfl rfl ?_
  refine ar_ldA rfl rfl ?_
  refine ar_get rfl (hs_eq (hs_eq (hs_eq (hs_eq rfl)))) rfl ?_
  refine ar_if2t rfl (by decide) ?_
  refine ar_ret0 rfl ?_
  show aRun _ (aCall Mt _) _ 5 (_, [], _, _, _)
  refine ar_ldA rfl rfl ?_
  refine ar_push rfl ?_
  refine ar_inl (mc := 0) (ms := 0) rfl (rcv_of (hs_eq (hs_eq (hs_eq (hs_eq rfl))))) (Nat.le_of_ble_eq_true rfl) (Nat.le_of_ble_eq_true rfl) (by omega) (by omega) ?_
  refine ac_ink [some (.inr (.inr (some 5))), some (.inl 63)] mt_97 (Nat.le_of_ble_eq_true rfl) rfl ?_
  refine ar_ldA rfl rfl ?_
  refine ar_get rfl (hs_eq (hs_eq (hs_eq (hs_eq rfl)))) rfl ?_
  refine ar_push rfl ?_
  refine ar_if2t rfl (by decide) ?_
  refine ar_push rfl ?_
  refine ar_ret rfl rfl ?_
  show aRun _ (aCall Mt _) _ 11 (_, [_], _, _, _)
  refine ar_if1f rfl (by decide) ?_
  refine ar_ldA rfl rfl ?_
  refine ar_push rfl ?_
  refine ar_push rfl ?_
  refine ar_inl (mc := 0) (ms := 0) rfl (rcv_of (hs_eq (hs_eq (hs_eq (hs_eq rfl))))) (Nat.le_of_ble_eq_true rfl) (Nat.le_of_ble_eq_true rfl) (by omega) (by omega) ?_
  refine ac_ink [some (.inr (.inr (some 5))), some (.inl 15), some (.inl 0)] mt_98 (Nat.le_of_ble_eq_true rfl) rfl ?_
  refine ar_ldA rfl rfl ?_
  refine ar_get rfl (hs_eq (hs_eq (hs_eq (hs_eq rfl)))) rfl ?_
  refine ar_ldA rfl rfl ?_
  refine ar_get rfl (hs_eq (hs_eq (hs_eq (hs_eq rfl)))) rfl ?_
  refine ar_len rfl (hs_ne (by decide) (hs_ne (by decide) (hs_ne (by decide) (hs_ne (by decide) rfl)))) ?_
  refine ar_if2t rfl (by decide) ?_
  refine ar_ldA rfl rfl ?_
  refine ar_get rfl (hs_eq (hs_eq (hs_eq (hs_eq rfl)))) rfl ?_
  refine ar_ldA rfl rfl ?_
  refine ar_get rfl (hs_eq (hs_eq (hs_eq (hs_eq rfl)))) rfl ?_
  refine ar_ldI rfl rfl ?_
  refine ar_ldI rfl rfl ?_
  refine ar_inl (mc := 0) (ms := 0) rfl rfl (Nat.le_of_ble_eq_true rfl) (Nat.le_of_ble_eq_true rfl) (by omega) (by omega) ?_
  refine ac_ink [some (.inl 15), some (.inl 0)] mt_111 (Nat.le_of_ble_eq_true rfl) rfl ?_
  refine ar_ldI rfl rfl ?_
  refine ar_push rfl ?_
  refine ar_bink (z := 0) rfl (by decide) ?_
  refine ar_ldI rfl rfl ?_
  refine ar_bink (z := 15) rfl (by decide) ?_
  refine ar_ret rfl rfl ?_
  show aRun _ (aCall Mt _) _ 26 (_, [_, _, _], _, _, _)
  refine ar_ast rfl (hs_ne (by decide) (hs_ne (by decide) (hs_ne (by decide) (hs_ne (by decide) rfl)))) (by decide) (Nat.le_of_ble_eq_true rfl) ?_
  refine ar_ldA rfl rfl ?_
  refine ar_dup rfl rfl ?_
  refine ar_get rfl (hs_ne (by decide) (hs_eq (hs_eq (hs_eq (hs_eq rfl))))) rfl ?_
  refine ar_push rfl ?_
  refine ar_bink (z := 1) rfl (by decide) ?_
  refine ar_put rfl (hs_ne (by decide) (hs_eq (hs_eq (hs_eq (hs_eq rfl))))) (Nat.le_of_ble_eq_true rfl) rfl ?_
  refine ar_ret0 rfl ?_
  show aRun _ (aCall Mt _) _ 21 (_, [], _, _, _)
  refine ar_ret0 rfl ?_
  show aRun _ (aCall Mt _) _ 19 (_, [], _, _, _)
  refine ar_push rfl ?_
  refine ar_svIk [some (.inr (.inr (some 5))), some (.inr (.inr (some 11))), some (.inl 0)] rfl rfl ?_
  refine ar_ldI rfl rfl ?_
  refine ar_ldA rfl rfl ?_
  refine ar_get rfl (hs_eq (hs_ne (by decide) (hs_eq (hs_eq (hs_eq (hs_eq rfl)))))) rfl ?_
  refine ar_if2t rfl (by decide) ?_
  refine ar_ldA rfl rfl ?_
  refine ar_get rfl (hs_eq (hs_ne (by decide) (hs_eq (hs_eq (hs_eq (hs_eq rfl)))))) rfl ?_
  refine ar_push rfl ?_
  refine ar_if2t rfl (by decide) ?_
  refine ar_ldA rfl rfl ?_
  refine ar_get rfl (hs_eq (hs_ne (by decide) (hs_eq (hs_eq (hs_eq (hs_eq rfl)))))) rfl ?_
  refine ar_push rfl ?_
  refine ar_if2t rfl (by decide) ?_
  refine ar_ldA rfl rfl ?_
  refine ar_push rfl ?_
  refine ar_put rfl (hs_eq (hs_ne (by decide) (hs_eq (hs_eq (hs_eq (hs_eq rfl)))))) (Nat.le_of_ble_eq_true rfl) rfl ?_
  refine ar_ldA rfl rfl ?_
  refine ar_get rfl (hs_eq (hs_eq (hs_ne (by decide) (hs_eq (hs_eq (hs_eq (hs_eq rfl))))))) rfl ?_
  refine ar_ret rfl rfl ?_
  show aRun _ (aCall Mt _) _ 20 (_, [_], _, _, _)
  refine ar_svIk [some (.inr (.inr (some 0))), some (.inl 1), some (.inr (.inr (some 11))), some (.inl 0)] rfl rfl ?_
  refine ar_ldI rfl rfl ?_
  refine ar_push rfl ?_
  refine ar_if2f rfl (by decide) ?_
  refine ar_push rfl ?_
  refine ar_ldI rfl rfl ?_
  refine ar_bink (z := (-100)) rfl (by decide) ?_
  refine ar_ret rfl rfl ?_
  refine ⟨_, 0, 0, _, rfl, Nat.zero_le _, Nat.zero_le _, (hs_ne (by decide) (hs_ne (by decide) (hs_ne (by decide) (hs_ne (by decide) (hs_ne (by decide) (hs_ne (by decide) (hs_ne (by decide) rfl))))))), ?_⟩
  refine rgen (((((((rFr_F.sets (by decide)).sets (by decide)).sets (by decide)).sets (by decide)).sets (by decide)).sets (by decide)).sets (by decide)) (fun g hr => ?_)
  refine ac_ink [some (.inr (.inr (some 69))), some (.inl 1), none, none] mt_227 (Nat.le_of_ble_eq_true rfl) rfl ?_
  refine ar_ldI rfl rfl ?_
  refine ar_push rfl ?_
  refine ar_push rfl ?_
  refine ar_callv rfl rfl (Nat.le_of_ble_eq_true rfl) (Nat.le_of_ble_eq_true rfl) rfl (sp_in _ _ _ _ _) ?_
  refine ar_if1t rfl (bi_n0t (by decide)) ?_
  refine ar_ldA rfl rfl ?_
  refine ar_push rfl ?_
  refine ar_put rfl (hr.at 69 (by decide) (by decide) rfl) (Nat.le_of_ble_eq_true rfl) rfl ?_
  refine ar_ldA rfl rfl ?_
  refine ar_push rfl ?_
  refine ar_put rfl (hs_eq (hr.at 69 (by decide) (by decide) rfl)) (Nat.le_of_ble_eq_true rfl) rfl ?_
  refine ar_ldA rfl rfl ?_
  refine ar_push rfl ?_
  refine ar_put rfl (hs_eq (hs_eq (hr.at 69 (by decide) (by decide) rfl))) (Nat.le_of_ble_eq_true rfl) rfl ?_
  refine ar_ldA rfl rfl ?_
  refine ar_push rfl ?_
  refine ar_put rfl (hs_eq (hs_eq (hs_eq (hr.at 69 (by decide) (by decide) rfl)))) (Nat.le_of_ble_eq_true rfl) rfl ?_
  refine ar_ldA rfl rfl ?_
  refine ar_get rfl (hs_eq (hs_eq (hs_eq (hs_eq (hr.at 69 (by decide) (by decide) rfl))))) rfl ?_
  refine ar_push rfl ?_
  refine ar_push rfl ?_
  refine ar_ast rfl (hs_ne (by decide) (hs_ne (by decide) (hs_ne (by decide) (hs_ne (by decide) (hr.at 85 (by decide) (by decide) rfl))))) (by decide) (Nat.le_of_ble_eq_true rfl) ?_
  refine ar_ldA rfl rfl ?_
  refine ar_inl (mc := 0) (ms := 0) rfl (rcv_of (hs_ne (by decide) (hs_eq (hs_eq (hs_eq (hs_eq (hr.at 69 (by decide) (by decide) rfl))))))) (Nat.le_of_ble_eq_true rfl) (Nat.le_of_ble_eq_true rfl) (by omega) (by omega) ?_
  refine ac_ink [some (.inr (.inr (some 69))), none] mt_225 (Nat.le_of_ble_eq_true rfl) rfl ?_
  refine ar_push rfl ?_
  refine ar_ldA rfl rfl ?_
  refine ar_get rfl (hs_ne (by decide) (hs_eq (hs_eq (hs_eq (hs_eq (hr.at 69 (by decide) (by decide) rfl)))))) rfl ?_
  refine ar_push rfl ?_
  refine ar_ald rfl (hs_eq (hs_ne (by decide) (hs_ne (by decide) (hs_ne (by decide) (hs_ne (by decide) (hr.at 85 (by decide) (by decide) rfl)))))) (by decide) rfl ?_
  refine ar_bink (z := 671) rfl (by decide) ?_
  refine ar_svIk [some (.inr (.inr (some 69))), some (.inl 671)] rfl rfl ?_
  refine ar_ldA rfl rfl ?_
  refine ar_get rfl (hs_ne (by decide) (hs_eq (hs_eq (hs_eq (hs_eq (hr.at 69 (by decide) (by decide) rfl)))))) rfl ?_
  refine ar_ldI rfl rfl ?_
  refine ar_ldA rfl rfl ?_
  refine ar_get rfl (hs_ne (by decide) (hs_eq (hs_eq (hs_eq (hs_eq (hr.at 69 (by decide) (by decide) rfl)))))) rfl ?_
  refine ar_un rfl ?_
  refine ar_ast rfl (hs_ne (by decide) (hs_ne (by decide) (hs_ne (by decide) (hs_ne (by decide) (hs_ne (by decide) (hr.at 86 (by decide) (by decide) rfl)))))) (by decide) (Nat.le_of_ble_eq_true rfl) ?_
  refine ar_ldA rfl rfl ?_
  refine ar_inl (mc := 0) (ms := 0) rfl (rcv_of (hs_ne (by decide) (hs_ne (by decide) (hs_eq (hs_eq (hs_eq (hs_eq (hr.at 69 (by decide) (by decide) rfl)))))))) (Nat.le_of_ble_eq_true rfl) (Nat.le_of_ble_eq_true rfl) (by omega) (by omega) ?_
  refine ac_ink [some (.inr (.inr (some 69)))] mt_224 (Nat.le_of_ble_eq_true rfl) rfl ?_
  refine ar_ldA rfl rfl ?_
  refine ar_inl (mc := 0) (ms := 0) rfl (rcv_of (hs_ne (by decide) (hs_ne (by decide) (hs_eq (hs_eq (hs_eq (hs_eq (hr.at 69 (by decide) (by decide) rfl)))))))) (Nat.le_of_ble_eq_true rfl) (Nat.le_of_ble_eq_true rfl) (by omega) (by omega) ?_
  refine ac_ink [some (.inr (.inr (some 69)))] mt_223 (Nat.le_of_ble_eq_true rfl) rfl ?_
  refine ar_ldA rfl rfl ?_
  refine ar_inl (mc := 0) (ms := 0) rfl (rcv_of (hs_ne (by decide) (hs_ne (by decide) (hs_eq (hs_eq (hs_eq (hs_eq (hr.at 69 (by decide) (by decide) rfl)))))))) (Nat.le_of_ble_eq_true rfl) (Nat.le_of_ble_eq_true rfl) (by omega) (by omega) ?_
  refine ac_ink [some (.inr (.inr (some 69))), none] mt_222 (Nat.le_of_ble_eq_true rfl) rfl ?_
  refine ar_ldA rfl rfl ?_
  refine ar_inl (mc := 0) (ms := 0) rfl (rcv_of (hs_ne (by decide) (hs_ne (by decide) (hs_eq (hs_eq (hs_eq (hs_eq (hr.at 69 (by decide) (by decide) rfl)))))))) (Nat.le_of_ble_eq_true rfl) (Nat.le_of_ble_eq_true rfl) (by omega) (by omega) ?_
  refine ac_ink [some (.inr (.inr (some 69))), none] mt_221 (Nat.le_of_ble_eq_true rfl) rfl ?_
  refine ar_ldA rfl rfl ?_
  refine ar_inl (mc := 0) (ms := 0) rfl (rcv_of (hs_ne (by decide) (hs_ne (by decide) (hs_eq (hs_eq (hs_eq (hs_eq (hr.at 69 (by decide) (by decide) rfl)))))))) (Nat.le_of_ble_eq_true rfl) (Nat.le_of_ble_eq_true rfl) (by omega) (by omega) ?_
  refine ac_ink [some (.inr (.inr (some 69))), none] mt_220 (Nat.le_of_ble_eq_true rfl) rfl ?_
  refine ar_ldA rfl rfl ?_
  refine ar_inl (mc := 0) (ms := 0) rfl (rcv_of (hs_ne (by decide) (hs_ne (by decide) (hs_eq (hs_eq (hs_eq (hs_eq (hr.at 69 (by decide) (by decide) rfl)))))))) (Nat.le_of_ble_eq_true rfl) (Nat.le_of_ble_eq_true rfl) (by omega) (by omega) ?_
  refine ac_ink [some (.inr (.inr (some 69))), none] mt_219 (Nat.le_of_ble_eq_true rfl) rfl ?_
  refine ar_ldA rfl rfl ?_
  refine ar_inl (mc := 0) (ms := 0) rfl (rcv_of (hs_ne (by decide) (hs_ne (by decide) (hs_eq (hs_eq (hs_eq (hs_eq (hr.at 69 (by decide) (by decide) rfl)))))))) (Nat.le_of_ble_eq_true rfl) (Nat.le_of_ble_eq_true rfl) (by omega) (by omega) ?_
  refine ac_ink [some (.inr (.inr (some 69)))] mt_213 (Nat.le_of_ble_eq_true rfl) rfl ?_
  refine ar_ldA rfl rfl ?_
  refine ar_get rfl (hs_ne (by decide) (hs_ne (by decide) (hs_eq (hs_eq (hs_eq (hs_eq (hr.at 69 (by decide) (by decide) rfl))))))) rfl ?_
  refine ar_ldA rfl rfl ?_
  refine ar_get rfl (hs_ne (by decide) (hs_ne (by decide) (hs_eq (hs_eq (hs_eq (hs_eq (hr.at 69 (by decide) (by decide) rfl))))))) rfl ?_
  refine ar_if2t rfl (by decide) ?_
  refine ar_push rfl ?_
  refine ar_ret rfl rfl ?_
  show aRun _ (aCall Mt _) _ 4 (_, [_], _, _, _)
  refine ar_svIk [some (.inr (.inr (some 69))), some (.inl (-1))] rfl rfl ?_
  refine ar_ldI rfl rfl ?_
  refine ar_inl (mc := 0) (ms := 0) rfl rfl (Nat.le_of_ble_eq_true rfl) (Nat.le_of_ble_eq_true rfl) (by omega) (by omega) ?_
  refine ac_ink [some (.inl (-1))] mt_216 (Nat.le_of_ble_eq_true rfl) rfl ?_
  refine ar_ldI rfl rfl ?_
  refine ar_tabO rfl (by decide) ?_
  refine ar_push rfl ?_
  refine ar_ret rfl rfl ?_
  show aRun _ (aCall Mt _) _ 9 (_, [_], _, _, _)
  refine ar_if1t rfl (by decide) ?_
  refine ar_ldI rfl rfl ?_
  refine ar_push rfl ?_
  refine ar_if2f rfl (by decide) ?_
  refine ar_ldI rfl rfl ?_
  refine ar_push rfl ?_
  refine ar_if2t rfl (by decide) ?_
  refine ar_ldI rfl rfl ?_
  refine ar_push rfl ?_
  refine ar_if2t rfl (by decide) ?_
  refine ar_ldA rfl rfl ?_
  refine ar_inl (mc := 0) (ms := 0) rfl (rcv_of (hs_ne (by decide) (hs_ne (by decide) (hs_eq (hs_eq (hs_eq (hs_eq (hr.at 69 (by decide) (by decide) rfl)))))))) (Nat.le_of_ble_eq_true rfl) (Nat.le_of_ble_eq_true rfl) (by omega) (by omega) ?_
  refine ac_ink [some (.inr (.inr (some 69))), none, none] mt_218 (Nat.le_of_ble_eq_true rfl) rfl ?_
  refine ar_push rfl ?_
  refine ar_svIk [some (.inr (.inr (some 69))), some (.inl 0), none] rfl rfl ?_
  refine ar_push rfl ?_
  refine ar_svIk [some (.inr (.inr (some 69))), some (.inl 0), some (.inl 0)] rfl rfl ?_
  refine ar_ldI rfl rfl ?_
  refine ar_push rfl ?_
  refine ar_if2f rfl (by decide) ?_
  refine ar_ldA rfl rfl ?_
  refine ar_inl (mc := 0) (ms := 0) rfl (rcv_of (hs_ne (by decide) (hs_ne (by decide) (hs_eq (hs_eq (hs_eq (hs_eq (hr.at 69 (by decide) (by decide) rfl)))))))) (Nat.le_of_ble_eq_true rfl) (Nat.le_of_ble_eq_true rfl) (by omega) (by omega) ?_
  refine ac_ink [some (.inr (.inr (some 69)))] mt_213 (Nat.le_of_ble_eq_true rfl) rfl ?_
  refine ar_ldA rfl rfl ?_
  refine ar_get rfl (hs_ne (by decide) (hs_ne (by decide) (hs_eq (hs_eq (hs_eq (hs_eq (hr.at 69 (by decide) (by decide) rfl))))))) rfl ?_
  refine ar_ldA rfl rfl ?_
  refine ar_get rfl (hs_ne (by decide) (hs_ne (by decide) (hs_eq (hs_eq (hs_eq (hs_eq (hr.at 69 (by decide) (by decide) rfl))))))) rfl ?_
  refine ar_if2t rfl (by decide) ?_
  refine ar_push rfl ?_
  refine ar_ret rfl rfl ?_
  show aRun _ (aCall Mt _) _ 14 (_, [_], _, _, _)
  refine ar_push rfl ?_
  refine ar_push rfl ?_
  refine ar_callv rfl rfl (Nat.le_of_ble_eq_true rfl) (Nat.le_of_ble_eq_true rfl) rfl (sp_in _ _ _ _ _) ?_
  refine ar_if1t rfl (bi_e0t (by decide)) ?_
  refine ar_ldI rfl rfl ?_
  refine ar_if1t rfl (by decide) ?_
  refine ar_ldA rfl rfl ?_
  refine ar_inl (mc := 0) (ms := 0) rfl (rcv_of (hs_ne (by decide) (hs_ne (by decide) (hs_eq (hs_eq (hs_eq (hs_eq (hr.at 69 (by decide) (by decide) rfl)))))))) (Nat.le_of_ble_eq_true rfl) (Nat.le_of_ble_eq_true rfl) (by omega) (by omega) ?_
  refine ac_ink [some (.inr (.inr (some 69)))] mt_214 (Nat.le_of_ble_eq_true rfl) rfl ?_
  refine ar_ldA rfl rfl ?_
  refine ar_get rfl (hs_ne (by decide) (hs_ne (by decide) (hs_eq (hs_eq (hs_eq (hs_eq (hr.at 69 (by decide) (by decide) rfl))))))) rfl ?_
  refine ar_if1f rfl (by decide) ?_
  refine ar_ldA rfl rfl ?_
  refine ar_ldA rfl rfl ?_
  refine ar_get rfl (hs_ne (by decide) (hs_ne (by decide) (hs_eq (hs_eq (hs_eq (hs_eq (hr.at 69 (by decide) (by decide) rfl))))))) rfl ?_
  refine ar_put rfl (hs_ne (by decide) (hs_ne (by decide) (hs_eq (hs_eq (hs_eq (hs_eq (hr.at 69 (by decide) (by decide) rfl))))))) (Nat.le_of_ble_eq_true rfl) rfl ?_
  refine ar_ret0 rfl ?_
  show aRun _ (aCall Mt _) _ 75 (_, [], _, _, _)
  refine ar_ldA rfl rfl ?_
  refine ar_push rfl ?_
  refine ar_ldI rfl rfl ?_
  refine ar_inl (mc := 0) (ms := 0) rfl (rcv_of (hs_eq (hs_ne (by decide) (hs_ne (by decide) (hs_eq (hs_eq (hs_eq (hs_eq (hr.at 69 (by decide) (by decide) rfl))))))))) (Nat.le_of_ble_eq_true rfl) (Nat.le_of_ble_eq_true rfl) (by omega) (by omega) ?_
  refine ac_ink [some (.inr (.inr (some 69))), some (.inl 1), some (.inl 0)] mt_215 (Nat.le_of_ble_eq_true rfl) rfl ?_
  refine ar_ldA rfl rfl ?_
  refine ar_get rfl (hs_eq (hs_ne (by decide) (hs_ne (by decide) (hs_eq (hs_eq (hs_eq (hs_eq (hr.at 69 (by decide) (by decide) rfl)))))))) rfl ?_
  refine ar_push rfl ?_
  refine ar_ldA rfl rfl ?_
  refine ar_get rfl (hs_eq (hs_ne (by decide) (hs_ne (by decide) (hs_eq (hs_eq (hs_eq (hs_eq (hr.at 69 (by decide) (by decide) rfl)))))))) rfl ?_
  refine ar_bink (z := 1430) rfl (by decide) ?_
  refine ar_ldI rfl rfl ?_
  refine ar_un rfl ?_
  refine ar_ast rfl (hs_ne (by decide) (hs_ne (by decide) (hs_ne (by decide) (hs_ne (by decide) (hs_ne (by decide) (hs_ne (by decide) (hs_ne (by decide) (hr.at 83 (by decide) (by decide) rfl)))))))) (by decide) (Nat.le_of_ble_eq_true rfl) ?_
  refine ar_ldA rfl rfl ?_
  refine ar_get rfl (hs_ne (by decide) (hs_eq (hs_ne (by decide) (hs_ne (by decide) (hs_eq (hs_eq (hs_eq (hs_eq (hr.at 69 (by decide) (by decide) rfl))))))))) rfl ?_
  refine ar_push rfl ?_
  refine ar_ldA rfl rfl ?_
  refine ar_get rfl (hs_ne (by decide) (hs_eq (hs_ne (by decide) (hs_ne (by decide) (hs_eq (hs_eq (hs_eq (hs_eq (hr.at 69 (by decide) (by decide) rfl))))))))) rfl ?_
  refine ar_bink (z := 1430) rfl (by decide) ?_
  refine ar_ldI rfl rfl ?_
  refine ar_ast rfl (hs_ne (by decide) (hs_ne (by decide) (hs_ne (by decide) (hs_ne (by decide) (hs_ne (by decide) (hs_ne (by decide) (hs_ne (by decide) (hs_ne (by decide) (hr.at 84 (by decide) (by decide) rfl))))))))) (by decide) (Nat.le_of_ble_eq_true rfl) ?_
  refine ar_ldA rfl rfl ?_
  refine ar_dup rfl rfl ?_
  refine ar_get rfl (hs_ne (by decide) (hs_ne (by decide) (hs_eq (hs_ne (by decide) (hs_ne (by decide) (hs_eq (hs_eq (hs_eq (hs_eq (hr.at 69 (by decide) (by decide) rfl)))))))))) rfl ?_
  refine ar_push rfl ?_
  refine ar_bink (z := 1) rfl (by decide) ?_
  refine ar_put rfl (hs_ne (by decide) (hs_ne (by decide) (hs_eq (hs_ne (by decide) (hs_ne (by decide) (hs_eq (hs_eq (hs_eq (hs_eq (hr.at 69 (by decide) (by decide) rfl)))))))))) (Nat.le_of_ble_eq_true rfl) rfl ?_
  refine ar_ret0 rfl ?_
  show aRun _ (aCall Mt _) _ 81 (_, [], _, _, _)
  refine ar_ret0 rfl ?_
  show aRun _ (aCall Mt _) _ 154 (_, [], _, _, _)
  refine ar_ret0 rfl ?_
  show aRun _ (aCall Mt _) _ 4 (_, [], _, _, _)
  refine ar_ldA rfl rfl ?_
  refine ar_get rfl (hs_eq (hs_ne (by decide) (hs_ne (by decide) (hs_eq (hs_ne (by decide) (hs_ne (by decide) (hs_eq (hs_eq (hs_eq (hs_eq (hr.at 69 (by decide) (by decide) rfl))))))))))) rfl ?_
  refine ar_if1t rfl (by decide) ?_
  refine ar_ret0 rfl ?_
  show aRun _ (aCall Mt _) _ 4 (_, [], _, _, _)
  refine ar_ldA rfl rfl ?_
  refine ar_get rfl (hs_eq (hs_ne (by decide) (hs_ne (by decide) (hs_eq (hs_ne (by decide) (hs_ne (by decide) (hs_eq (hs_eq (hs_eq (hs_eq (hr.at 69 (by decide) (by decide) rfl))))))))))) rfl ?_
  refine ar_if1t rfl (by decide) ?_
  refine ar_ret0 rfl ?_
  show aRun _ (aCall Mt _) _ 4 (_, [], _, _, _)
  refine ar_ldA rfl rfl ?_
  refine ar_inl (mc := 0) (ms := 0) rfl (rcv_of (hs_eq (hs_ne (by decide) (hs_ne (by decide) (hs_eq (hs_ne (by decide) (hs_ne (by decide) (hs_eq (hs_eq (hs_eq (hs_eq (hr.at 69 (by decide) (by decide) rfl)))))))))))) (Nat.le_of_ble_eq_true rfl) (Nat.le_of_ble_eq_true rfl) (by omega) (by omega) ?_
  refine ac_ink [some (.inr (.inr (some 69)))] mt_213 (Nat.le_of_ble_eq_true rfl) rfl ?_
  refine ar_ldA rfl rfl ?_
  refine ar_get rfl (hs_eq (hs_ne (by decide) (hs_ne (by decide) (hs_eq (hs_ne (by decide) (hs_ne (by decide) (hs_eq (hs_eq (hs_eq (hs_eq (hr.at 69 (by decide) (by decide) rfl))))))))))) rfl ?_
  refine ar_ldA rfl rfl ?_
  refine ar_get rfl (hs_eq (hs_ne (by decide) (hs_ne (by decide) (hs_eq (hs_ne (by decide) (hs_ne (by decide) (hs_eq (hs_eq (hs_eq (hs_eq (hr.at 69 (by decide) (by decide) rfl))))))))))) rfl ?_
  refine ar_if2t rfl (by decide) ?_
  refine ar_push rfl ?_
  refine ar_ret rfl rfl ?_
  show aRun _ (aCall Mt _) _ 8 (_, [_], _, _, _)
  refine ar_svIk [some (.inr (.inr (some 69))), some (.inl (-1))] rfl rfl ?_
  refine ar_ldA rfl rfl ?_
  refine ar_get rfl (hs_eq (hs_ne (by decide) (hs_ne (by decide) (hs_eq (hs_ne (by decide) (hs_ne (by decide) (hs_eq (hs_eq (hs_eq (hs_eq (hr.at 69 (by decide) (by decide) rfl))))))))))) rfl ?_
  refine ar_if1t rfl (by decide) ?_
  refine ar_ret0 rfl ?_
  show aRun _ (aCall Mt _) _ 4 (_, [], _, _, _)
  refine ar_ldA rfl rfl ?_
  refine ar_get rfl (hs_eq (hs_ne (by decide) (hs_ne (by decide) (hs_eq (hs_ne (by decide) (hs_ne (by decide) (hs_eq (hs_eq (hs_eq (hs_eq (hr.at 69 (by decide) (by decide) rfl))))))))))) rfl ?_
  refine ar_if1t rfl (by decide) ?_
  refine ar_ret0 rfl ?_
  show aRun _ (aCall Mt _) _ 4 (_, [], _, _, _)
  refine ar_ldA rfl rfl ?_
  refine ar_get rfl (hs_eq (hs_ne (by decide) (hs_ne (by decide) (hs_eq (hs_ne (by decide) (hs_ne (by decide) (hs_eq (hs_eq (hs_eq (hs_eq (hr.at 69 (by decide) (by decide) rfl))))))))))) rfl ?_
  refine ar_if1t rfl (by decide) ?_
  refine ar_ret0 rfl ?_
  show aRun _ (aCall Mt _) _ 27 (_, [], _, _, _)
  refine ar_ldA rfl rfl ?_
  refine ar_get rfl (hs_eq (hs_ne (by decide) (hs_ne (by decide) (hs_eq (hs_ne (by decide) (hs_ne (by decide) (hs_eq (hs_eq (hs_eq (hs_eq (hr.at 69 (by decide) (by decide) rfl))))))))))) rfl ?_
  refine ar_if1t rfl (by decide) ?_
  refine ar_ldA rfl rfl ?_
  refine ar_get rfl (hs_eq (hs_ne (by decide) (hs_ne (by decide) (hs_eq (hs_ne (by decide) (hs_ne (by decide) (hs_eq (hs_eq (hs_eq (hs_eq (hr.at 69 (by decide) (by decide) rfl))))))))))) rfl ?_
  refine ar_ldI rfl rfl ?_
  refine ar_ldA rfl rfl ?_
  refine ar_get rfl (hs_eq (hs_ne (by decide) (hs_ne (by decide) (hs_eq (hs_ne (by decide) (hs_ne (by decide) (hs_eq (hs_eq (hs_eq (hs_eq (hr.at 69 (by decide) (by decide) rfl))))))))))) rfl ?_
  refine ar_un rfl ?_
  refine ar_ast rfl (hs_ne (by decide) (hs_ne (by decide) (hs_ne (by decide) (hs_ne (by decide) (hs_ne (by decide) (hs_ne (by decide) (hs_ne (by decide) (hs_ne (by decide) (hs_ne (by decide) (hs_ne (by decide) (hr.at 87 (by decide) (by decide) rfl))))))))))) (by decide) (Nat.le_of_ble_eq_true rfl) ?_
  refine ar_ldA rfl rfl ?_
  refine ar_get rfl (hs_ne (by decide) (hs_eq (hs_ne (by decide) (hs_ne (by decide) (hs_eq (hs_ne (by decide) (hs_ne (by decide) (hs_eq (hs_eq (hs_eq (hs_eq (hr.at 69 (by decide) (by decide) rfl)))))))))))) rfl ?_
  refine ar_push rfl ?_
  refine ar_dup2 rfl rfl rfl ?_
  refine ar_ald rfl (hs_ne (by decide) (hs_ne (by decide) (hs_ne (by decide) (hs_ne (by decide) (hs_ne (by decide) (hs_ne (by decide) (hs_eq (hs_ne (by decide) (hs_ne (by decide) (hs_ne (by decide) (hs_ne (by decide) (hr.at 85 (by decide) (by decide) rfl)))))))))))) (by decide) rfl ?_
  refine ar_push rfl ?_
  refine ar_bink (z := 1) rfl (by decide) ?_
  refine ar_ast rfl (hs_ne (by decide) (hs_ne (by decide) (hs_ne (by decide) (hs_ne (by decide) (hs_ne (by decide) (hs_ne (by decide) (hs_eq (hs_ne (by decide) (hs_ne (by decide) (hs_ne (by decide) (hs_ne (by decide) (hr.at 85 (by decide) (by decide) rfl)))))))))))) (by decide) (Nat.le_of_ble_eq_true rfl) ?_
  refine ar_ret0 rfl ?_
  show aRun _ (aCall Mt _) _ 54 (_, [], _, _, _)
  refine ar_ldA rfl rfl ?_
  refine ar_get rfl (hs_ne (by decide) (hs_ne (by decide) (hs_eq (hs_ne (by decide) (hs_ne (by decide) (hs_eq (hs_ne (by decide) (hs_ne (by decide) (hs_eq (hs_eq (hs_eq (hs_eq (hr.at 69 (by decide) (by decide) rfl))))))))))))) rfl ?_
  refine ar_if1t rfl (by decide) ?_
  refine ar_ldA rfl rfl ?_
  refine ar_get rfl (hs_ne (by decide) (hs_ne (by decide) (hs_eq (hs_ne (by decide) (hs_ne (by decide) (hs_eq (hs_ne (by decide) (hs_ne (by decide) (hs_eq (hs_eq (hs_eq (hs_eq (hr.at 69 (by decide) (by decide) rfl))))))))))))) rfl ?_
  refine ar_if1t rfl (by decide) ?_
  refine ar_ldA rfl rfl ?_
  refine ar_push rfl ?_
  refine ar_put rfl (hs_ne (by decide) (hs_ne (by decide) (hs_eq (hs_ne (by decide) (hs_ne (by decide) (hs_eq (hs_ne (by decide) (hs_ne (by decide) (hs_eq (hs_eq (hs_eq (hs_eq (hr.at 69 (by decide) (by decide) rfl))))))))))))) (Nat.le_of_ble_eq_true rfl) rfl ?_
  refine ar_ldA rfl rfl ?_
  refine ar_get rfl (hs_eq (hs_ne (by decide) (hs_ne (by decide) (hs_eq (hs_ne (by decide) (hs_ne (by decide) (hs_eq (hs_ne (by decide) (hs_ne (by decide) (hs_eq (hs_eq (hs_eq (hs_eq (hr.at 69 (by decide) (by decide) rfl)))))))))))))) rfl ?_
  refine ar_if1f rfl (by decide) ?_
  refine ar_push rfl ?_
  refine ar_ldA rfl rfl ?_
  refine ar_get rfl (hs_eq (hs_ne (by decide) (hs_ne (by decide) (hs_eq (hs_ne (by decide) (hs_ne (by decide) (hs_eq (hs_ne (by decide) (hs_ne (by decide) (hs_eq (hs_eq (hs_eq (hs_eq (hr.at 69 (by decide) (by decide) rfl)))))))))))))) rfl ?_
  refine ar_bink (z := (-100)) rfl (by decide) ?_
  refine ar_ret rfl rfl ?_
  exact ⟨rfl, hJ _ _ _⟩
set_option maxRecDepth 20000 in
set_option maxHeartbeats 4000000 in
theorem p1_7_10 (J : aH → Nat → Nat → Prop) (hJ : ∀ h a b, J h a b) (kc ks : Nat) (hkc : 1000 ≤ kc) (hks : 100000 ≤ ks) : aPairI 0 69 131 227 [.inl 10] J hF kc ks := by
  refine ⟨0, 0, _, by omega, by omega, rfl, ?_⟩
  refine ac_ink [some (.inr (.inr (some 0))), some (.inl 10), none, none] mt_131 (Nat.le_of_ble_eq_true rfl) rfl ?_
  refine ar_ldA rfl rfl ?_
  refine ar_ldI rfl rfl ?_
  refine ar_inl (mc := 0) (ms := 0) rfl (rcv_of rfl) (Nat.le_of_ble_eq_true rfl) (Nat.le_of_ble_eq_true rfl) (by omega) (by omega) ?_
  refine ac_ink [some (.inr (.inr (some 0))), some (.inl 10)] mt_166 (Nat.le_of_ble_eq_true rfl) rfl ?_
  refine ar_ldI rfl rfl ?_
  refine ar_if1t rfl (by decide) ?_
  refine ar_ldI rfl rfl ?_
  refine ar_push rfl ?_
  refine ar_if2t rfl (by decide) ?_
  refine ar_ldA rfl rfl ?_
  refine ar_get rfl rfl rfl ?_
  refine ar_ldI rfl rfl ?_
  refine ar_push rfl ?_
  refine ar_bink (z := 0) rfl (by decide) ?_
  refine ar_inl (mc := 0) (ms := 0) rfl (rcv_of rfl) (Nat.le_of_ble_eq_true rfl) (Nat.le_of_ble_eq_true rfl) (by omega) (by omega) ?_
  refine ac_ink [some (.inr (.inr (some 15))), some (.inl 0)] mt_7 (Nat.le_of_ble_eq_true rfl) rfl ?_
  refine ar_ldI rfl rfl ?_
  refine ar_inl (mc := 0) (ms := 0) rfl rfl (Nat.le_of_ble_eq_true rfl) (Nat.le_of_ble_eq_true rfl) (by omega) (by omega) ?_
  refine ac_ink [some (.inl 0)] mt_175 (Nat.le_of_ble_eq_true rfl) rfl ?_
  refine ar_ldI rfl rfl ?_
  refine ar_push rfl ?_
  refine ar_push rfl ?_
  refine ar_callv rfl rfl (Nat.le_of_ble_eq_true rfl) (Nat.le_of_ble_eq_true rfl) rfl (sp_within _ _ _ _ _) ?_
  refine ar_ret rfl (bi_ret _) ?_
  show aRun _ (aCall Mt _) _ 4 (_, [_], _, _, _)
  refine ar_if1f rfl (bi_e0f (by decide)) ?_
  refine ar_ldA rfl rfl ?_
  refine ar_get rfl rfl rfl ?_
  refine ar_ldI rfl rfl ?_
  refine ar_aldA rfl rfl (by decide) rfl ?_
  refine ar_go rfl ?_
  refine ar_ret rfl rfl ?_
  show aRun _ (aCall Mt _) _ 36 (_, [_], _, _, _)
  refine ar_ret rfl rfl ?_
  show aRun _ (aCall Mt _) _ 5 (_, [_], _, _, _)
  refine ar_svAk [some (.inr (.inr (some 0))), some (.inl 10), some (.inr (.inr (some 23))), none] rfl rfl ?_
  refine ar_ldA rfl rfl ?_
  refine ar_nulS rfl ?_
  refine ar_ldA rfl rfl ?_
  refine ar_get rfl rfl rfl ?_
  refine ar_ldA rfl rfl ?_
  refine ar_inl (mc := 0) (ms := 0) rfl (rcv_of rfl) (Nat.le_of_ble_eq_true rfl) (Nat.le_of_ble_eq_true rfl) (by omega) (by omega) ?_
  refine ac_ink [some (.inr (.inr (some 5))), some (.inr (.inr (some 23))), none] mt_94 (Nat.le_of_ble_eq_true rfl) rfl ?_
  refine ar_ldA rfl rfl ?_
  refine ar_push rfl ?_
  refine ar_put rfl rfl (Nat.le_of_ble_eq_true rfl) rfl ?_
  refine ar_ldA rfl rfl ?_
  refine ar_push rfl ?_
  refine ar_put rfl (hs_eq rfl) (Nat.le_of_ble_eq_true rfl) rfl ?_
  refine ar_ldA rfl rfl ?_
  refine ar_push rfl ?_
  refine ar_put rfl (hs_eq (hs_eq rfl)) (Nat.le_of_ble_eq_true rfl) rfl ?_
  refine ar_ldA rfl rfl ?_
  refine ar_inl (mc := 0) (ms := 0) rfl (rcv_of (hs_eq (hs_eq (hs_eq rfl)))) (Nat.le_of_ble_eq_true rfl) (Nat.le_of_ble_eq_true rfl) (by omega) (by omega) ?_
  refine ac_ink [some (.inr (.inr (some 5))), none] mt_100 (Nat.le_of_ble_eq_true rfl) rfl ?_
  refine ar_ldA rfl rfl ?_
  refine ar_push rfl ?_
  refine ar_inl (mc := 0) (ms := 0) rfl (rcv_of (hs_eq (hs_eq (hs_eq rfl)))) (Nat.le_of_ble_eq_true rfl) (Nat.le_of_ble_eq_true rfl) (by omega) (by omega) ?_
  refine ac_ink [some (.inr (.inr (some 5))), some (.inl 0), none] mt_101 (Nat.le_of_ble_eq_true rfl) rfl ?_
  refine ar_ldA rfl rfl ?_
  refine ar_ldI rfl rfl ?_
  refine ar_inl (mc := 0) (ms := 0) rfl (rcv_of (hs_eq (hs_eq (hs_eq rfl)))) (Nat.le_of_ble_eq_true rfl) (Nat.le_of_ble_eq_true rfl) (by omega) (by omega) ?_
  refine ac_ink [some (.inr (.inr (some 5))), some (.inl 0), none] mt_102 (Nat.le_of_ble_eq_true rfl) rfl ?_
  refine ar_ldA rfl rfl ?_
  refine ar_ldI rfl rfl ?_
  refine ar_inl (mc := 0) (ms := 0) rfl (rcv_of (hs_eq (hs_eq (hs_eq rfl)))) (Nat.le_of_ble_eq_true rfl) (Nat.le_of_ble_eq_true rfl) (by omega) (by omega) ?_
  refine ac_ink [some (.inr (.inr (some 5))), some (.inl 0), none] mt_103 (Nat.le_of_ble_eq_true rfl) rfl ?_
  refine ar_ldA rfl rfl ?_
  refine ar_ldI rfl rfl ?_
  refine ar_inl (mc := 0) (ms := 0) rfl (rcv_of (hs_eq (hs_eq (hs_eq rfl)))) (Nat.le_of_ble_eq_true rfl) (Nat.le_of_ble_eq_true rfl) (by omega) (by omega) ?_
  refine ac_ink [some (.inr (.inr (some 5))), some (.inl 0), none, none] mt_104 (Nat.le_of_ble_eq_true rfl) rfl ?_
  refine ar_ldA rfl rfl ?_
  refine ar_ldI rfl rfl ?_
  refine ar_inl (mc := 0) (ms := 0) rfl (rcv_of (hs_eq (hs_eq (hs_eq rfl)))) (Nat.le_of_ble_eq_true rfl) (Nat.le_of_ble_eq_true rfl) (by omega) (by omega) ?_
  refine ac_ink [some (.inr (.inr (some 5))), some (.inl 0), none, none] mt_105 (Nat.le_of_ble_eq_true rfl) rfl ?_
  refine ar_ldA rfl rfl ?_
  refine ar_ldI rfl rfl ?_
  refine ar_inl (mc := 0) (ms := 0) rfl (rcv_of (hs_eq (hs_eq (hs_eq rfl)))) (Nat.le_of_ble_eq_true rfl) (Nat.le_of_ble_eq_true rfl) (by omega) (by omega) ?_
  refine ac_ink [some (.inr (.inr (some 5))), some (.inl 0), none] mt_106 (Nat.le_of_ble_eq_true rfl) rfl ?_
  refine ar_ldA rfl rfl ?_
  refine ar_inl (mc := 0) (ms := 0) rfl (rcv_of (hs_eq (hs_eq (hs_eq rfl)))) (Nat.le_of_ble_eq_true rfl) (Nat.le_of_ble_eq_true rfl) (by omega) (by omega) ?_
  refine ac_ink [some (.inr (.inr (some 5)))] mt_95 (Nat.le_of_ble_eq_true rfl) rfl ?_
  refine ar_ldA rfl rfl ?_
  refine ar_get rfl (hs_eq (hs_eq (hs_eq rfl))) rfl ?_
  refine ar_if1f rfl (by decide) ?_
  refine ar_ldA rfl rfl ?_
  refine ar_get rfl (hs_eq (hs_eq (hs_eq rfl))) rfl ?_
  refine ar_ldA rfl rfl ?_
  refine ar_get rfl (hs_eq (hs_eq (hs_eq rfl))) rfl ?_
  refine ar_if2t rfl (by decide) ?_
  refine ar_push rfl ?_
  refine ar_ret rfl rfl ?_
  show aRun _ (aCall Mt _) _ 4 (_, [_], _, _, _)
  refine ar_svIk [some (.inr (.inr (some 5))), some (.inl 0), some (.inl (-1))] rfl rfl ?_
  refine ar_ldI rfl rfl ?_
  refine ar_push rfl ?_
  refine ar_push rfl ?_
  refine ar_callv rfl rfl (Nat.le_of_ble_eq_true rfl) (Nat.le_of_ble_eq_true rfl) rfl (sp_within _ _ _ _ _) ?_
  refine ar_if1t rfl (bi_e0t (by decide)) ?_
  refine ar_ldI rfl rfl ?_
  refine ar_push rfl ?_
  refine ar_push rfl ?_
  refine ar_callv rfl rfl (Nat.le_of_ble_eq_true rfl) (Nat.le_of_ble_eq_true rfl) rfl (sp_within _ _ _ _ _) ?_
  refine ar_if1t rfl (bi_e0t (by decide)) ?_
  refine ar_ldI rfl rfl ?_
  refine ar_push rfl ?_
  refine ar_if2t rfl (by decide) ?_
  refine ar_ldA rfl rfl ?_
  refine ar_push rfl ?_
  refine ar_inl (mc := 0) (ms := 0) rfl (rcv_of (hs_eq (hs_eq (hs_eq rfl)))) (Nat.le_of_ble_eq_true rfl) (Nat.le_of_ble_eq_true rfl) (by omega) (by omega) ?_
  refine ac_ink [some (.inr (.inr (some 5))), some (.inl 40)] mt_96 (Nat.le_of_ble_eq_true rfl) rfl ?_
  refine ar_ldA rfl rfl ?_
  refine ar_inl (mc := 0) (ms := 0) rfl (rcv_of (hs_eq (hs_eq (hs_eq rfl)))) (Nat.le_of_ble_eq_true rfl) (Nat.le_of_ble_eq_true rfl) (by omega) (by omega) ?_
  refine ac_ink [some (.inr (.inr (some 5)))] mt_95 (Nat.le_of_ble_eq_true rfl) rfl ?_
  refine ar_ldA rfl rfl ?_
  refine ar_get rfl (hs_eq (hs_eq (hs_eq rfl))) rfl ?_
  refine ar_if1f rfl (by decide) ?_
  refine ar_ldA rfl rfl ?_
  refine ar_get rfl (hs_eq (hs_eq (hs_eq rfl))) rfl ?_
  refine ar_ldA rfl rfl ?_
  refine ar_get rfl (hs_eq (hs_eq (hs_eq rfl))) rfl ?_
  refine ar_if2t rfl (by decide) ?_
  refine ar_push rfl ?_
  refine ar_ret rfl rfl ?_
  show aRun _ (aCall Mt _) _ 4 (_, [_], _, _, _)
  refine ar_ldI rfl rfl ?_
  refine ar_if2f rfl (by decide) ?_
  refine ar_push rfl ?_
  refine ar_ret rfl rfl ?_
  show aRun _ (aCall Mt _) _ 88 (_, [_], _, _, _)
  refine ar_if1t rfl (by decide) ?_
  refine ar_ldA rfl rfl ?_
  refine ar_push rfl ?_
  refine ar_inl (mc := 0) (ms := 0) rfl (rcv_of (hs_eq (hs_eq (hs_eq rfl)))) (Nat.le_of_ble_eq_true rfl) (Nat.le_of_ble_eq_true rfl) (by omega) (by omega) ?_
  refine ac_ink [some (.inr (.inr (some 5))), some (.inl 33)] mt_96 (Nat.le_of_ble_eq_true rfl) rfl ?_
  refine ar_ldA rfl rfl ?_
  refine ar_inl (mc := 0) (ms := 0) rfl (rcv_of (hs_eq (hs_eq (hs_eq rfl)))) (Nat.le_of_ble_eq_true rfl) (Nat.le_of_ble_eq_true rfl) (by omega) (by omega) ?_
  refine ac_ink [some (.inr (.inr (some 5)))] mt_95 (Nat.le_of_ble_eq_true rfl) rfl ?_
  refine ar_ldA rfl rfl ?_
  refine ar_get rfl (hs_eq (hs_eq (hs_eq rfl))) rfl ?_
  refine ar_if1f rfl (by decide) ?_
  refine ar_ldA rfl rfl ?_
  refine ar_get rfl (hs_eq (hs_eq (hs_eq rfl))) rfl ?_
  refine ar_ldA rfl rfl ?_
  refine ar_get rfl (hs_eq (hs_eq (hs_eq rfl))) rfl ?_
  refine ar_if2t rfl (by decide) ?_
  refine ar_push rfl ?_
  refine ar_ret rfl rfl ?_
  show aRun _ (aCall Mt _) _ 4 (_, [_], _, _, _)
  refine ar_ldI rfl rfl ?_
  refine ar_if2f rfl (by decide) ?_
  refine ar_push rfl ?_
  refine ar_ret rfl rfl ?_
  show aRun _ (aCall Mt _) _ 120 (_, [_], _, _, _)
  refine ar_if1t rfl (by decide) ?_
  refine ar_ldA rfl rfl ?_
  refine ar_push rfl ?_
  refine ar_inl (mc := 0) (ms := 0) rfl (rcv_of (hs_eq (hs_eq (hs_eq rfl)))) (Nat.le_of_ble_eq_true rfl) (Nat.le_of_ble_eq_true rfl) (by omega) (by omega) ?_
  refine ac_ink [some (.inr (.inr (some 5))), some (.inl 45)] mt_96 (Nat.le_of_ble_eq_true rfl) rfl ?_
  refine ar_ldA rfl rfl ?_
  refine ar_inl (mc := 0) (ms := 0) rfl (rcv_of (hs_eq (hs_eq (hs_eq rfl)))) (Nat.le_of_ble_eq_true rfl) (Nat.le_of_ble_eq_true rfl) (by omega) (by omega) ?_
  refine ac_ink [some (.inr (.inr (some 5)))] mt_95 (Nat.le_of_ble_eq_true rfl) rfl ?_
  refine ar_ldA rfl rfl ?_
  refine ar_get rfl (hs_eq (hs_eq (hs_eq rfl))) rfl ?_
  refine ar_if1f rfl (by decide) ?_
  refine ar_ldA rfl rfl ?_
  refine ar_get rfl (hs_eq (hs_eq (hs_eq rfl))) rfl ?_
  refine ar_ldA rfl rfl ?_
  refine ar_get rfl (hs_eq (hs_eq (hs_eq rfl))) rfl ?_
  refine ar_if2t rfl (by decide) ?_
  refine ar_push rfl ?_
  refine ar_ret rfl rfl ?_
  show aRun _ (aCall Mt _) _ 4 (_, [_], _, _, _)
  refine ar_ldI rfl rfl ?_
  refine ar_if2f rfl (by decide) ?_
  refine ar_push rfl ?_
  refine ar_ret rfl rfl ?_
  show aRun _ (aCall Mt _) _ 145 (_, [_], _, _, _)
  refine ar_if1t rfl (by decide) ?_
  refine ar_ldA rfl rfl ?_
  refine ar_inl (mc := 0) (ms := 0) rfl (rcv_of (hs_eq (hs_eq (hs_eq rfl)))) (Nat.le_of_ble_eq_true rfl) (Nat.le_of_ble_eq_true rfl) (by omega) (by omega) ?_
  refine ac_ink [some (.inr (.inr (some 5)))] mt_99 (Nat.le_of_ble_eq_true rfl) rfl ?_
  refine ar_ldA rfl rfl ?_
  refine ar_get rfl (hs_eq (hs_eq (hs_eq rfl))) rfl ?_
  refine ar_push rfl ?_
  refine ar_if2f rfl (by decide) ?_
  refine ar_ldA rfl rfl ?_
  refine ar_ldA rfl rfl ?_
  refine ar_get rfl (hs_eq (hs_eq (hs_eq rfl))) rfl ?_
  refine ar_put rfl (hs_eq (hs_eq (hs_eq rfl))) (Nat.le_of_ble_eq_true rfl) rfl ?_
  refine ar_ret0 rfl ?_
  show aRun _ (aCall Mt _) _ 168 (_, [], _, _, _)
  refine ar_ret0 rfl ?_
  show aRun _ (aCall Mt _) _ 5 (_, [], _, _, _)
  refine ar_push rfl ?_
  refine ar_svIk [some (.inr (.inr (some 5))), some (.inl 0), some (.inl 0), none] rfl rfl ?_
  refine ar_ldI rfl rfl ?_
  refine ar_ldA rfl rfl ?_
  refine ar_get rfl (hs_eq (hs_eq (hs_eq (hs_eq rfl)))) rfl ?_
  refine ar_if2t rfl (by decide) ?_
  refine ar_ret0 rfl ?_
  show aRun _ (aCall Mt _) _ 5 (_, [], _, _, _)
  refine ar_push rfl ?_
  refine ar_svIk [some (.inr (.inr (some 5))), some (.inl 0), some (.inl 0), none] rfl rfl ?_
  refine ar_ldI rfl rfl ?_
  refine ar_ldA rfl rfl ?_
  refine ar_get rfl (hs_eq (hs_eq (hs_eq (hs_eq rfl)))) rfl ?_
  refine ar_if2t rfl (by decide) ?_
  refine ar_ret0 rfl ?_
  show aRun _ (aCall Mt _) _ 5 (_, [], _, _, _)
  refine ar_ldA rfl rfl ?_
  refine ar_push rfl ?_
  refine ar_inl (mc := 0) (ms := 0) rfl (rcv_of (hs_eq (hs_eq (hs_eq (hs_eq rfl))))) (Nat.le_of_ble_eq_true rfl) (Nat.le_of_ble_eq_true rfl) (by omega) (by omega) ?_
  refine ac_ink [some (.inr (.inr (some 5))), some (.inl 60)] mt_97 (Nat.le_of_ble_eq_true rfl) rfl ?_
  refine ar_ldA rfl rfl ?_
  refine ar_get rfl (hs_eq (hs_eq (hs_eq (hs_eq rfl)))) rfl ?_
  refine ar_push rfl ?_
  refine ar_if2t rfl (by decide) ?_
  refine ar_push rfl ?_
  refine ar_ret rfl rfl ?_
  show aRun _ (aCall Mt _) _ 11 (_, [_], _, _, _)
  refine ar_if1t rfl (by decide) ?_
  refine ar_ldA rfl rfl ?_
  refine ar_push rfl ?_
  refine ar_inl (mc := 0) (ms := 0) rfl (rcv_of (hs_eq (hs_eq (hs_eq (hs_eq rfl))))) (Nat.le_of_ble_eq_true rfl) (Nat.le_of_ble_eq_true rfl) (by omega) (by omega) ?_
  refine ac_ink [some (.inr (.inr (some 5))), some (.inl 61)] mt_97 (Nat.le_of_ble_eq_true rfl) rfl ?_
  refine ar_ldA rfl rfl ?_
  refine ar_get rfl (hs_eq (hs_eq (hs_eq (hs_eq rfl)))) rfl ?_
  refine ar_push rfl ?_
  refine ar_if2t rfl (by decide) ?_
  refine ar_push rfl ?_
  refine ar_ret rfl rfl ?_
  show aRun _ (aCall Mt _) _ 25 (_, [_], _, _, _)
  refine ar_if1t rfl (by decide) ?_
  refine ar_ldA rfl rfl ?_
  refine ar_push rfl ?_
  refine ar_inl (mc := 0) (ms := 0) rfl (rcv_of (hs_eq (hs_eq (hs_eq (hs_eq rfl))))) (Nat.le_of_ble_eq_true rfl) (Nat.le_of_ble_eq_true rfl) (by omega) (by omega) ?_
  refine ac_ink [some (.inr (.inr (some 5))), some (.inl 62)] mt_97 (Nat.le_of_ble_eq_true rfl) rfl ?_
  refine ar_ldA rfl rfl ?_
  refine ar_get rfl (hs_eq (hs_eq (hs_eq (hs_eq rfl)))) rfl ?_
  refine ar_push rfl ?_
  refine ar_if2t rfl (by decide) ?_
  refine ar_push rfl ?_
  refine ar_ret rfl rfl ?_
  show aRun _ (aCall Mt _) _ 39 (_, [_], _, _, _)
  refine ar_if1t rfl (by decide) ?_
  refine ar_push rfl ?_
  refine ar_svIk [some (.inr (.inr (some 5))), some (.inl 0), some (.inl 15)] rfl rfl ?_
  refine ar_ldI rfl rfl ?_
  refine ar_push rfl ?_
  refine ar_if2f rfl (by decide) ?_
  refine ar_ret0 rfl ?_
  show aRun _ (aCall Mt _) _ 5 (_, [], _, _, _)
  refine ar_push rfl ?_
  refine ar_svIk [some (.inr (.inr (some 5))), some (.inl 0), some (.inl 0)] rfl rfl ?_
  refine ar_ldI rfl rfl ?_
  refine ar_ldA rfl rfl ?_
  refine ar_get rfl (hs_eq (hs_eq (hs_eq (hs_eq rfl)))) rfl ?_
  refine ar_if2t rfl (by decide) ?_
  refine ar_ret0 rfl ?_
  show aRun _ (aCall Mt _) _ 5 (_, [], _, _, _)
  refine ar_push rfl ?_
  refine ar_svIk [some (.inr (.inr (some 5))), some (.inl 0), some (.inl 0)] rfl rfl ?_
  refine ar_ldI rfl rfl ?_
  refine ar_ldA rfl rfl ?_
  refine ar_get rfl (hs_eq (hs_eq (hs_eq (hs_eq rfl)))) rfl ?_
  refine ar_if2t rfl (by decide) ?_
  refine ar_ret0 rfl ?_
  show aRun _ (aCall Mt _) _ 5 (_, [], _, _, _)
  refine ar_ldA rfl rfl ?_
  refine ar_push rfl ?_
  refine ar_inl (mc := 0) (ms := 0) rfl (rcv_of (hs_eq (hs_eq (hs_eq (hs_eq rfl))))) (Nat.le_of_ble_eq_true rfl) (Nat.le_of_ble_eq_true rfl) (by omega) (by omega) ?_
  refine ac_ink [some (.inr (.inr (some 5))), some (.inl 63)] mt_97 (Nat.le_of_ble_eq_true rfl) rfl ?_
  refine ar_ldA rfl rfl ?_
  refine ar_get rfl (hs_eq (hs_eq (hs_eq (hs_eq rfl)))) rfl ?_
  refine ar_push rfl ?_
  refine ar_if2t rfl (by decide) ?_
  refine ar_push rfl ?_
  refine ar_ret rfl rfl ?_
  show aRun _ (aCall Mt _) _ 11 (_, [_], _, _, _)
  refine ar_if1f rfl (by decide) ?_
  refine ar_ldA rfl rfl ?_
  refine ar_push rfl ?_
  refine ar_push rfl ?_
  refine ar_inl (mc := 0) (ms := 0) rfl (rcv_of (hs_eq (hs_eq (hs_eq (hs_eq rfl))))) (Nat.le_of_ble_eq_true rfl) (Nat.le_of_ble_eq_true rfl) (by omega) (by omega) ?_
  refine ac_ink [some (.inr (.inr (some 5))), some (.inl 15), some (.inl 0)] mt_98 (Nat.le_of_ble_eq_true rfl) rfl ?_
  refine ar_ldA rfl rfl ?_
  refine ar_get rfl (hs_eq (hs_eq (hs_eq (hs_eq rfl)))) rfl ?_
  refine ar_ldA rfl rfl ?_
  refine ar_get rfl (hs_eq (hs_eq (hs_eq (hs_eq rfl)))) rfl ?_
  refine ar_len rfl (hs_ne (by decide) (hs_ne (by decide) (hs_ne (by decide) (hs_ne (by decide) rfl)))) ?_
  refine ar_if2t rfl (by decide) ?_
  refine ar_ldA rfl rfl ?_
  refine ar_get rfl (hs_eq (hs_eq (hs_eq (hs_eq rfl)))) rfl ?_
  refine ar_ldA rfl rfl ?_
  refine ar_get rfl (hs_eq (hs_eq (hs_eq (hs_eq rfl)))) rfl ?_
  refine ar_ldI rfl rfl ?_
  refine ar_ldI rfl rfl ?_
  refine ar_inl (mc := 0) (ms := 0) rfl rfl (Nat.le_of_ble_eq_true rfl) (Nat.le_of_ble_eq_true rfl) (by omega) (by omega) ?_
  refine ac_ink [some (.inl 15), some (.inl 0)] mt_111 (Nat.le_of_ble_eq_true rfl) rfl ?_
  refine ar_ldI rfl rfl ?_
  refine ar_push rfl ?_
  refine ar_bink (z := 0) rfl (by decide) ?_
  refine ar_ldI rfl rfl ?_
  refine ar_bink (z := 15) rfl (by decide) ?_
  refine ar_ret rfl rfl ?_
  show aRun _ (aCall Mt _) _ 26 (_, [_, _, _], _, _, _)
  refine ar_ast rfl (hs_ne (by decide) (hs_ne (by decide) (hs_ne (by decide) (hs_ne (by decide) rfl)))) (by decide) (Nat.le_of_ble_eq_true rfl) ?_
  refine ar_ldA rfl rfl ?_
  refine ar_dup rfl rfl ?_
  refine ar_get rfl (hs_ne (by decide) (hs_eq (hs_eq (hs_eq (hs_eq rfl))))) rfl ?_
  refine ar_push rfl ?_
  refine ar_bink (z := 1) rfl (by decide) ?_
  refine ar_put rfl (hs_ne (by decide) (hs_eq (hs_eq (hs_eq (hs_eq rfl))))) (Nat.le_of_ble_eq_true rfl) rfl ?_
  refine ar_ret0 rfl ?_
  show aRun _ (aCall Mt _) _ 21 (_, [], _, _, _)
  refine ar_ret0 rfl ?_
  show aRun _ (aCall Mt _) _ 19 (_, [], _, _, _)
  refine ar_push rfl ?_
  refine ar_svIk [some (.inr (.inr (some 5))), some (.inr (.inr (some 23))), some (.inl 0)] rfl rfl ?_
  refine ar_ldI rfl rfl ?_
  refine ar_ldA rfl rfl ?_
  refine ar_get rfl (hs_eq (hs_ne (by decide) (hs_eq (hs_eq (hs_eq (hs_eq rfl)))))) rfl ?_
  refine ar_if2t rfl (by decide) ?_
  refine ar_ldA rfl rfl ?_
  refine ar_get rfl (hs_eq (hs_ne (by decide) (hs_eq (hs_eq (hs_eq (hs_eq rfl)))))) rfl ?_
  refine ar_push rfl ?_
  refine ar_if2t rfl (by decide) ?_
  refine ar_ldA rfl rfl ?_
  refine ar_get rfl (hs_eq (hs_ne (by decide) (hs_eq (hs_eq (hs_eq (hs_eq rfl)))))) rfl ?_
  refine ar_push rfl ?_
  refine ar_if2t rfl (by decide) ?_
  refine ar_ldA rfl rfl ?_
  refine ar_push rfl ?_
  refine ar_put rfl (hs_eq (hs_ne (by decide) (hs_eq (hs_eq (hs_eq (hs_eq rfl)))))) (Nat.le_of_ble_eq_true rfl) rfl ?_
  refine ar_ldA rfl rfl ?_
  refine ar_get rfl (hs_eq (hs_eq (hs_ne (by decide) (hs_eq (hs_eq (hs_eq (hs_eq rfl))))))) rfl ?_
  refine ar_ret rfl rfl ?_
  show aRun _ (aCall Mt _) _ 20 (_, [_], _, _, _)
  refine ar_svIk [some (.inr (.inr (some 0))), some (.inl 10), some (.inr (.inr (some 23))), some (.inl 0)] rfl rfl ?_
  refine ar_ldI rfl rfl ?_
  refine ar_push rfl ?_
  refine ar_if2f rfl (by decide) ?_
  refine ar_push rfl ?_
  refine ar_ldI rfl rfl ?_
  refine ar_bink (z := (-100)) rfl (by decide) ?_
  refine ar_ret rfl rfl ?_
  refine ⟨_, 0, 0, _, rfl, Nat.zero_le _, Nat.zero_le _, (hs_ne (by decide) (hs_ne (by decide) (hs_ne (by decide) (hs_ne (by decide) (hs_ne (by decide) (hs_ne (by decide) (hs_ne (by decide) rfl))))))), ?_⟩
  refine rgen (((((((rFr_F.sets (by decide)).sets (by decide)).sets (by decide)).sets (by decide)).sets (by decide)).sets (by decide)).sets (by decide)) (fun g hr => ?_)
  refine ac_ink [some (.inr (.inr (some 69))), some (.inl 10), none, none] mt_227 (Nat.le_of_ble_eq_true rfl) rfl ?_
  refine ar_ldI rfl rfl ?_
  refine ar_push rfl ?_
  refine ar_push rfl ?_
  refine ar_callv rfl rfl (Nat.le_of_ble_eq_true rfl) (Nat.le_of_ble_eq_true rfl) rfl (sp_in _ _ _ _ _) ?_
  refine ar_if1f rfl (bi_n0f (by decide)) ?_
  refine ar_ldI rfl rfl ?_
  refine ar_push rfl ?_
  refine ar_push rfl ?_
  refine ar_callv rfl rfl (Nat.le_of_ble_eq_true rfl) (Nat.le_of_ble_eq_true rfl) rfl (sp_in _ _ _ _ _) ?_
  refine ar_if1t rfl (bi_n0t (by decide)) ?_
  refine ar_ldA rfl rfl ?_
  refine ar_push rfl ?_
  refine ar_put rfl (hr.at 69 (by decide) (by decide) rfl) (Nat.le_of_ble_eq_true rfl) rfl ?_
  refine ar_ldA rfl rfl ?_
  refine ar_push rfl ?_
  refine ar_put rfl (hs_eq (hr.at 69 (by decide) (by decide) rfl)) (Nat.le_of_ble_eq_true rfl) rfl ?_
  refine ar_ldA rfl rfl ?_
  refine ar_push rfl ?_
  refine ar_put rfl (hs_eq (hs_eq (hr.at 69 (by decide) (by decide) rfl))) (Nat.le_of_ble_eq_true rfl) rfl ?_
  refine ar_ldA rfl rfl ?_
  refine ar_push rfl ?_
  refine ar_put rfl (hs_eq (hs_eq (hs_eq (hr.at 69 (by decide) (by decide) rfl)))) (Nat.le_of_ble_eq_true rfl) rfl ?_
  refine ar_ldA rfl rfl ?_
  refine ar_get rfl (hs_eq (hs_eq (hs_eq (hs_eq (hr.at 69 (by decide) (by decide) rfl))))) rfl ?_
  refine ar_push rfl ?_
  refine ar_push rfl ?_
  refine ar_ast rfl (hs_ne (by decide) (hs_ne (by decide) (hs_ne (by decide) (hs_ne (by decide) (hr.at 85 (by decide) (by decide) rfl))))) (by decide) (Nat.le_of_ble_eq_true rfl) ?_
  refine ar_ldA rfl rfl ?_
  refine ar_inl (mc := 0) (ms := 0) rfl (rcv_of (hs_ne (by decide) (hs_eq (hs_eq (hs_eq (hs_eq (hr.at 69 (by decide) (by decide) rfl))))))) (Nat.le_of_ble_eq_true rfl) (Nat.le_of_ble_eq_true rfl) (by omega) (by omega) ?_
  refine ac_ink [some (.inr (.inr (some 69))), none] mt_225 (Nat.le_of_ble_eq_true rfl) rfl ?_
  refine ar_push rfl ?_
  refine ar_ldA rfl rfl ?_
  refine ar_get rfl (hs_ne (by decide) (hs_eq (hs_eq (hs_eq (hs_eq (hr.at 69 (by decide) (by decide) rfl)))))) rfl ?_
  refine ar_push rfl ?_
  refine ar_ald rfl (hs_eq (hs_ne (by decide) (hs_ne (by decide) (hs_ne (by decide) (hs_ne (by decide) (hr.at 85 (by decide) (by decide) rfl)))))) (by decide) rfl ?_
  refine ar_bink (z := 671) rfl (by decide) ?_
  refine ar_svIk [some (.inr (.inr (some 69))), some (.inl 671)] rfl rfl ?_
  refine ar_ldA rfl rfl ?_
  refine ar_get rfl (hs_ne (by decide) (hs_eq (hs_eq (hs_eq (hs_eq (hr.at 69 (by decide) (by decide) rfl)))))) rfl ?_
  refine ar_ldI rfl rfl ?_
  refine ar_ldA rfl rfl ?_
  refine ar_get rfl (hs_ne (by decide) (hs_eq (hs_eq (hs_eq (hs_eq (hr.at 69 (by decide) (by decide) rfl)))))) rfl ?_
  refine ar_un rfl ?_
  refine ar_ast rfl (hs_ne (by decide) (hs_ne (by decide) (hs_ne (by decide) (hs_ne (by decide) (hs_ne (by decide) (hr.at 86 (by decide) (by decide) rfl)))))) (by decide) (Nat.le_of_ble_eq_true rfl) ?_
  refine ar_ldA rfl rfl ?_
  refine ar_inl (mc := 0) (ms := 0) rfl (rcv_of (hs_ne (by decide) (hs_ne (by decide) (hs_eq (hs_eq (hs_eq (hs_eq (hr.at 69 (by decide) (by decide) rfl)))))))) (Nat.le_of_ble_eq_true rfl) (Nat.le_of_ble_eq_true rfl) (by omega) (by omega) ?_
  refine ac_ink [some (.inr (.inr (some 69)))] mt_224 (Nat.le_of_ble_eq_true rfl) rfl ?_
  refine ar_ldA rfl rfl ?_
  refine ar_inl (mc := 0) (ms := 0) rfl (rcv_of (hs_ne (by decide) (hs_ne (by decide) (hs_eq (hs_eq (hs_eq (hs_eq (hr.at 69 (by decide) (by decide) rfl)))))))) (Nat.le_of_ble_eq_true rfl) (Nat.le_of_ble_eq_true rfl) (by omega) (by omega) ?_
  refine ac_ink [some (.inr (.inr (some 69)))] mt_223 (Nat.le_of_ble_eq_true rfl) rfl ?_
  refine ar_ldA rfl rfl ?_
  refine ar_inl (mc := 0) (ms := 0) rfl (rcv_of (hs_ne (by decide) (hs_ne (by decide) (hs_eq (hs_eq (hs_eq (hs_eq (hr.at 69 (by decide) (by decide) rfl)))))))) (Nat.le_of_ble_eq_true rfl) (Nat.le_of_ble_eq_true rfl) (by omega) (by omega) ?_
  refine ac_ink [some (.inr (.inr (some 69))), none] mt_222 (Nat.le_of_ble_eq_true rfl) rfl ?_
  refine ar_ldA rfl rfl ?_
  refine ar_inl (mc := 0) (ms := 0) rfl (rcv_of (hs_ne (by decide) (hs_ne (by decide) (hs_eq (hs_eq (hs_eq (hs_eq (hr.at 69 (by decide) (by decide) rfl)))))))) (Nat.le_of_ble_eq_true rfl) (Nat.le_of_ble_eq_true rfl) (by omega) (by omega) ?_
  refine ac_ink [some (.inr (.inr (some 69))), none] mt_221 (Nat.le_of_ble_eq_true rfl) rfl ?_
  refine ar_ldA rfl rfl ?_
  refine ar_inl (mc := 0) (ms := 0) rfl (rcv_of (hs_ne (by decide) (hs_ne (by decide) (hs_eq (hs_eq (hs_eq (hs_eq (hr.at 69 (by decide) (by decide) rfl)))))))) (Nat.le_of_ble_eq_true rfl) (Nat.le_of_ble_eq_true rfl) (by omega) (by omega) ?_
  refine ac_ink [some (.inr (.inr (some 69))), none] mt_220 (Nat.le_of_ble_eq_true rfl) rfl ?_
  refine ar_ldA rfl rfl ?_
  refine ar_inl (mc := 0) (ms := 0) rfl (rcv_of (hs_ne (by decide) (hs_ne (by decide) (hs_eq (hs_eq (hs_eq (hs_eq (hr.at 69 (by decide) (by decide) rfl)))))))) (Nat.le_of_ble_eq_true rfl) (Nat.le_of_ble_eq_true rfl) (by omega) (by omega) ?_
  refine ac_ink [some (.inr (.inr (some 69))), none] mt_219 (Nat.le_of_ble_eq_true rfl) rfl ?_
  refine ar_ldA rfl rfl ?_
  refine ar_inl (mc := 0) (ms := 0) rfl (rcv_of (hs_ne (by decide) (hs_ne (by decide) (hs_eq (hs_eq (hs_eq (hs_eq (hr.at 69 (by decide) (by decide) rfl)))))))) (Nat.le_of_ble_eq_true rfl) (Nat.le_of_ble_eq_true rfl) (by omega) (by omega) ?_
  refine ac_ink [some (.inr (.inr (some 69)))] mt_213 (Nat.le_of_ble_eq_true rfl) rfl ?_
  refine ar_ldA rfl rfl ?_
  refine ar_get rfl (hs_ne (by decide) (hs_ne (by decide) (hs_eq (hs_eq (hs_eq (hs_eq (hr.at 69 (by decide) (by decide) rfl))))))) rfl ?_
  refine ar_ldA rfl rfl ?_
  refine ar_get rfl (hs_ne (by decide) (hs_ne (by decide) (hs_eq (hs_eq (hs_eq (hs_eq (hr.at 69 (by decide) (by decide) rfl))))))) rfl ?_
  refine ar_if2t rfl (by decide) ?_
  refine ar_push rfl ?_
  refine ar_ret rfl rfl ?_
  show aRun _ (aCall Mt _) _ 4 (_, [_], _, _, _)
  refine ar_svIk [some (.inr (.inr (some 69))), some (.inl (-1))] rfl rfl ?_
  refine ar_ldI rfl rfl ?_
  refine ar_inl (mc := 0) (ms := 0) rfl rfl (Nat.le_of_ble_eq_true rfl) (Nat.le_of_ble_eq_true rfl) (by omega) (by omega) ?_
  refine ac_ink [some (.inl (-1))] mt_216 (Nat.le_of_ble_eq_true rfl) rfl ?_
  refine ar_ldI rfl rfl ?_
  refine ar_tabO rfl (by decide) ?_
  refine ar_push rfl ?_
  refine ar_ret rfl rfl ?_
  show aRun _ (aCall Mt _) _ 9 (_, [_], _, _, _)
  refine ar_if1t rfl (by decide) ?_
  refine ar_ldI rfl rfl ?_
  refine ar_push rfl ?_
  refine ar_if2f rfl (by decide) ?_
  refine ar_ldI rfl rfl ?_
  refine ar_push rfl ?_
  refine ar_if2t rfl (by decide) ?_
  refine ar_ldI rfl rfl ?_
  refine ar_push rfl ?_
  refine ar_if2t rfl (by decide) ?_
  refine ar_ldA rfl rfl ?_
  refine ar_inl (mc := 0) (ms := 0) rfl (rcv_of (hs_ne (by decide) (hs_ne (by decide) (hs_eq (hs_eq (hs_eq (hs_eq (hr.at 69 (by decide) (by decide) rfl)))))))) (Nat.le_of_ble_eq_true rfl) (Nat.le_of_ble_eq_true rfl) (by omega) (by omega) ?_
  refine ac_ink [some (.inr (.inr (some 69))), none, none] mt_218 (Nat.le_of_ble_eq_true rfl) rfl ?_
  refine ar_push rfl ?_
  refine ar_svIk [some (.inr (.inr (some 69))), some (.inl 0), none] rfl rfl ?_
  refine ar_push rfl ?_
  refine ar_svIk [some (.inr (.inr (some 69))), some (.inl 0), some (.inl 0)] rfl rfl ?_
  refine ar_ldI rfl rfl ?_
  refine ar_push rfl ?_
  refine ar_if2f rfl (by decide) ?_
  refine ar_ldA rfl rfl ?_
  refine ar_inl (mc := 0) (ms := 0) rfl (rcv_of (hs_ne (by decide) (hs_ne (by decide) (hs_eq (hs_eq (hs_eq (hs_eq (hr.at 69 (by decide) (by decide) rfl)))))))) (Nat.le_of_ble_eq_true rfl) (Nat.le_of_ble_eq_true rfl) (by omega) (by omega) ?_
  refine ac_ink [some (.inr (.inr (some 69)))] mt_213 (Nat.le_of_ble_eq_true rfl) rfl ?_
  refine ar_ldA rfl rfl ?_
  refine ar_get rfl (hs_ne (by decide) (hs_ne (by decide) (hs_eq (hs_eq (hs_eq (hs_eq (hr.at 69 (by decide) (by decide) rfl))))))) rfl ?_
  refine ar_ldA rfl rfl ?_
  refine ar_get rfl (hs_ne (by decide) (hs_ne (by decide) (hs_eq (hs_eq (hs_eq (hs_eq (hr.at 69 (by decide) (by decide) rfl))))))) rfl ?_
  refine ar_if2t rfl (by decide) ?_
  refine ar_push rfl ?_
  refine ar_ret rfl rfl ?_
  show aRun _ (aCall Mt _) _ 14 (_, [_], _, _, _)
  refine ar_push rfl ?_
  refine ar_push rfl ?_
  refine ar_callv rfl rfl (Nat.le_of_ble_eq_true rfl) (Nat.le_of_ble_eq_true rfl) rfl (sp_in _ _ _ _ _) ?_
  refine ar_if1t rfl (bi_e0t (by decide)) ?_
  refine ar_ldI rfl rfl ?_
  refine ar_if1t rfl (by decide) ?_
  refine ar_ldA rfl rfl ?_
  refine ar_inl (mc := 0) (ms := 0) rfl (rcv_of (hs_ne (by decide) (hs_ne (by decide) (hs_eq (hs_eq (hs_eq (hs_eq (hr.at 69 (by decide) (by decide) rfl)))))))) (Nat.le_of_ble_eq_true rfl) (Nat.le_of_ble_eq_true rfl) (by omega) (by omega) ?_
  refine ac_ink [some (.inr (.inr (some 69)))] mt_214 (Nat.le_of_ble_eq_true rfl) rfl ?_
  refine ar_ldA rfl rfl ?_
  refine ar_get rfl (hs_ne (by decide) (hs_ne (by decide) (hs_eq (hs_eq (hs_eq (hs_eq (hr.at 69 (by decide) (by decide) rfl))))))) rfl ?_
  refine ar_if1f rfl (by decide) ?_
  refine ar_ldA rfl rfl ?_
  refine ar_ldA rfl rfl ?_
  refine ar_get rfl (hs_ne (by decide) (hs_ne (by decide) (hs_eq (hs_eq (hs_eq (hs_eq (hr.at 69 (by decide) (by decide) rfl))))))) rfl ?_
  refine ar_put rfl (hs_ne (by decide) (hs_ne (by decide) (hs_eq (hs_eq (hs_eq (hs_eq (hr.at 69 (by decide) (by decide) rfl))))))) (Nat.le_of_ble_eq_true rfl) rfl ?_
  refine ar_ret0 rfl ?_
  show aRun _ (aCall Mt _) _ 75 (_, [], _, _, _)
  refine ar_ldA rfl rfl ?_
  refine ar_push rfl ?_
  refine ar_ldI rfl rfl ?_
  refine ar_inl (mc := 0) (ms := 0) rfl (rcv_of (hs_eq (hs_ne (by decide) (hs_ne (by decide) (hs_eq (hs_eq (hs_eq (hs_eq (hr.at 69 (by decide) (by decide) rfl))))))))) (Nat.le_of_ble_eq_true rfl) (Nat.le_of_ble_eq_true rfl) (by omega) (by omega) ?_
  refine ac_ink [some (.inr (.inr (some 69))), some (.inl 1), some (.inl 0)] mt_215 (Nat.le_of_ble_eq_true rfl) rfl ?_
  refine ar_ldA rfl rfl ?_
  refine ar_get rfl (hs_eq (hs_ne (by decide) (hs_ne (by decide) (hs_eq (hs_eq (hs_eq (hs_eq (hr.at 69 (by decide) (by decide) rfl)))))))) rfl ?_
  refine ar_push rfl ?_
  refine ar_ldA rfl rfl ?_
  refine ar_get rfl (hs_eq (hs_ne (by decide) (hs_ne (by decide) (hs_eq (hs_eq (hs_eq (hs_eq (hr.at 69 (by decide) (by decide) rfl)))))))) rfl ?_
  refine ar_bink (z := 1430) rfl (by decide) ?_
  refine ar_ldI rfl rfl ?_
  refine ar_un rfl ?_
  refine ar_ast rfl (hs_ne (by decide) (hs_ne (by decide) (hs_ne (by decide) (hs_ne (by decide) (hs_ne (by decide) (hs_ne (by decide) (hs_ne (by decide) (hr.at 83 (by decide) (by decide) rfl)))))))) (by decide) (Nat.le_of_ble_eq_true rfl) ?_
  refine ar_ldA rfl rfl ?_
  refine ar_get rfl (hs_ne (by decide) (hs_eq (hs_ne (by decide) (hs_ne (by decide) (hs_eq (hs_eq (hs_eq (hs_eq (hr.at 69 (by decide) (by decide) rfl))))))))) rfl ?_
  refine ar_push rfl ?_
  refine ar_ldA rfl rfl ?_
  refine ar_get rfl (hs_ne (by decide) (hs_eq (hs_ne (by decide) (hs_ne (by decide) (hs_eq (hs_eq (hs_eq (hs_eq (hr.at 69 (by decide) (by decide) rfl))))))))) rfl ?_
  refine ar_bink (z := 1430) rfl (by decide) ?_
  refine ar_ldI rfl rfl ?_
  refine ar_ast rfl (hs_ne (by decide) (hs_ne (by decide) (hs_ne (by decide) (hs_ne (by decide) (hs_ne (by decide) (hs_ne (by decide) (hs_ne (by decide) (hs_ne (by decide) (hr.at 84 (by decide) (by decide) rfl))))))))) (by decide) (Nat.le_of_ble_eq_true rfl) ?_
  refine ar_ldA rfl rfl ?_
  refine ar_dup rfl rfl ?_
  refine ar_get rfl (hs_ne (by decide) (hs_ne (by decide) (hs_eq (hs_ne (by decide) (hs_ne (by decide) (hs_eq (hs_eq (hs_eq (hs_eq (hr.at 69 (by decide) (by decide) rfl)))))))))) rfl ?_
  refine ar_push rfl ?_
  refine ar_bink (z := 1) rfl (by decide) ?_
  refine ar_put rfl (hs_ne (by decide) (hs_ne (by decide) (hs_eq (hs_ne (by decide) (hs_ne (by decide) (hs_eq (hs_eq (hs_eq (hs_eq (hr.at 69 (by decide) (by decide) rfl)))))))))) (Nat.le_of_ble_eq_true rfl) rfl ?_
  refine ar_ret0 rfl ?_
  show aRun _ (aCall Mt _) _ 81 (_, [], _, _, _)
  refine ar_ret0 rfl ?_
  show aRun _ (aCall Mt _) _ 154 (_, [], _, _, _)
  refine ar_ret0 rfl ?_
  show aRun _ (aCall Mt _) _ 4 (_, [], _, _, _)
  refine ar_ldA rfl rfl ?_
  refine ar_get rfl (hs_eq (hs_ne (by decide) (hs_ne (by decide) (hs_eq (hs_ne (by decide) (hs_ne (by decide) (hs_eq (hs_eq (hs_eq (hs_eq (hr.at 69 (by decide) (by decide) rfl))))))))))) rfl ?_
  refine ar_if1t rfl (by decide) ?_
  refine ar_ret0 rfl ?_
  show aRun _ (aCall Mt _) _ 4 (_, [], _, _, _)
  refine ar_ldA rfl rfl ?_
  refine ar_get rfl (hs_eq (hs_ne (by decide) (hs_ne (by decide) (hs_eq (hs_ne (by decide) (hs_ne (by decide) (hs_eq (hs_eq (hs_eq (hs_eq (hr.at 69 (by decide) (by decide) rfl))))))))))) rfl ?_
  refine ar_if1t rfl (by decide) ?_
  refine ar_ret0 rfl ?_
  show aRun _ (aCall Mt _) _ 4 (_, [], _, _, _)
  refine ar_ldA rfl rfl ?_
  refine ar_inl (mc := 0) (ms := 0) rfl (rcv_of (hs_eq (hs_ne (by decide) (hs_ne (by decide) (hs_eq (hs_ne (by decide) (hs_ne (by decide) (hs_eq (hs_eq (hs_eq (hs_eq (hr.at 69 (by decide) (by decide) rfl)))))))))))) (Nat.le_of_ble_eq_true rfl) (Nat.le_of_ble_eq_true rfl) (by omega) (by omega) ?_
  refine ac_ink [some (.inr (.inr (some 69)))] mt_213 (Nat.le_of_ble_eq_true rfl) rfl ?_
  refine ar_ldA rfl rfl ?_
  refine ar_get rfl (hs_eq (hs_ne (by decide) (hs_ne (by decide) (hs_eq (hs_ne (by decide) (hs_ne (by decide) (hs_eq (hs_eq (hs_eq (hs_eq (hr.at 69 (by decide) (by decide) rfl))))))))))) rfl ?_
  refine ar_ldA rfl rfl ?_
  refine ar_get rfl (hs_eq (hs_ne (by decide) (hs_ne (by decide) (hs_eq (hs_ne (by decide) (hs_ne (by decide) (hs_eq (hs_eq (hs_eq (hs_eq (hr.at 69 (by decide) (by decide) rfl))))))))))) rfl ?_
  refine ar_if2t rfl (by decide) ?_
  refine ar_push rfl ?_
  refine ar_ret rfl rfl ?_
  show aRun _ (aCall Mt _) _ 8 (_, [_], _, _, _)
  refine ar_svIk [some (.inr (.inr (some 69))), some (.inl (-1))] rfl rfl ?_
  refine ar_ldA rfl rfl ?_
  refine ar_get rfl (hs_eq (hs_ne (by decide) (hs_ne (by decide) (hs_eq (hs_ne (by decide) (hs_ne (by decide) (hs_eq (hs_eq (hs_eq (hs_eq (hr.at 69 (by decide) (by decide) rfl))))))))))) rfl ?_
  refine ar_if1t rfl (by decide) ?_
  refine ar_ret0 rfl ?_
  show aRun _ (aCall Mt _) _ 4 (_, [], _, _, _)
  refine ar_ldA rfl rfl ?_
  refine ar_get rfl (hs_eq (hs_ne (by decide) (hs_ne (by decide) (hs_eq (hs_ne (by decide) (hs_ne (by decide) (hs_eq (hs_eq (hs_eq (hs_eq (hr.at 69 (by decide) (by decide) rfl))))))))))) rfl ?_
  refine ar_if1t rfl (by decide) ?_
  refine ar_ret0 rfl ?_
  show aRun _ (aCall Mt _) _ 4 (_, [], _, _, _)
  refine ar_ldA rfl rfl ?_
  refine ar_get rfl (hs_eq (hs_ne (by decide) (hs_ne (by decide) (hs_eq (hs_ne (by decide) (hs_ne (by decide) (hs_eq (hs_eq (hs_eq (hs_eq (hr.at 69 (by decide) (by decide) rfl))))))))))) rfl ?_
  refine ar_if1t rfl (by decide) ?_
  refine ar_ret0 rfl ?_
  show aRun _ (aCall Mt _) _ 27 (_, [], _, _, _)
  refine ar_ldA rfl rfl ?_
  refine ar_get rfl (hs_eq (hs_ne (by decide) (hs_ne (by decide) (hs_eq (hs_ne (by decide) (hs_ne (by decide) (hs_eq (hs_eq (hs_eq (hs_eq (hr.at 69 (by decide) (by decide) rfl))))))))))) rfl ?_
  refine ar_if1t rfl (by decide) ?_
  refine ar_ldA rfl rfl ?_
  refine ar_get rfl (hs_eq (hs_ne (by decide) (hs_ne (by decide) (hs_eq (hs_ne (by decide) (hs_ne (by decide) (hs_eq (hs_eq (hs_eq (hs_eq (hr.at 69 (by decide) (by decide) rfl))))))))))) rfl ?_
  refine ar_ldI rfl rfl ?_
  refine ar_ldA rfl rfl ?_
  refine ar_get rfl (hs_eq (hs_ne (by decide) (hs_ne (by decide) (hs_eq (hs_ne (by decide) (hs_ne (by decide) (hs_eq (hs_eq (hs_eq (hs_eq (hr.at 69 (by decide) (by decide) rfl))))))))))) rfl ?_
  refine ar_un rfl ?_
  refine ar_ast rfl (hs_ne (by decide) (hs_ne (by decide) (hs_ne (by decide) (hs_ne (by decide) (hs_ne (by decide) (hs_ne (by decide) (hs_ne (by decide) (hs_ne (by decide) (hs_ne (by decide) (hs_ne (by decide) (hr.at 87 (by decide) (by decide) rfl))))))))))) (by decide) (Nat.le_of_ble_eq_true rfl) ?_
  refine ar_ldA rfl rfl ?_
  refine ar_get rfl (hs_ne (by decide) (hs_eq (hs_ne (by decide) (hs_ne (by decide) (hs_eq (hs_ne (by decide) (hs_ne (by decide) (hs_eq (hs_eq (hs_eq (hs_eq (hr.at 69 (by decide) (by decide) rfl)))))))))))) rfl ?_
  refine ar_push rfl ?_
  refine ar_dup2 rfl rfl rfl ?_
  refine ar_ald rfl (hs_ne (by decide) (hs_ne (by decide) (hs_ne (by decide) (hs_ne (by decide) (hs_ne (by decide) (hs_ne (by decide) (hs_eq (hs_ne (by decide) (hs_ne (by decide) (hs_ne (by decide) (hs_ne (by decide) (hr.at 85 (by decide) (by decide) rfl)))))))))))) (by decide) rfl ?_
  refine ar_push rfl ?_
  refine ar_bink (z := 1) rfl (by decide) ?_
  refine ar_ast rfl (hs_ne (by decide) (hs_ne (by decide) (hs_ne (by decide) (hs_ne (by decide) (hs_ne (by decide) (hs_ne (by decide) (hs_eq (hs_ne (by decide) (hs_ne (by decide) (hs_ne (by decide) (hs_ne (by decide) (hr.at 85 (by decide) (by decide) rfl)))))))))))) (by decide) (Nat.le_of_ble_eq_true rfl) ?_
  refine ar_ret0 rfl ?_
  show aRun _ (aCall Mt _) _ 54 (_, [], _, _, _)
  refine ar_ldA rfl rfl ?_
  refine ar_get rfl (hs_ne (by decide) (hs_ne (by decide) (hs_eq (hs_ne (by decide) (hs_ne (by decide) (hs_eq (hs_ne (by decide) (hs_ne (by decide) (hs_eq (hs_eq (hs_eq (hs_eq (hr.at 69 (by decide) (by decide) rfl))))))))))))) rfl ?_
  refine ar_if1t rfl (by decide) ?_
  refine ar_ldA rfl rfl ?_
  refine ar_get rfl (hs_ne (by decide) (hs_ne (by decide) (hs_eq (hs_ne (by decide) (hs_ne (by decide) (hs_eq (hs_ne (by decide) (hs_ne (by decide) (hs_eq (hs_eq (hs_eq (hs_eq (hr.at 69 (by decide) (by decide) rfl))))))))))))) rfl ?_
  refine ar_if1t rfl (by decide) ?_
  refine ar_ldA rfl rfl ?_
  refine ar_push rfl ?_
  refine ar_put rfl (hs_ne (by decide) (hs_ne (by decide) (hs_eq (hs_ne (by decide) (hs_ne (by decide) (hs_eq (hs_ne (by decide) (hs_ne (by decide) (hs_eq (hs_eq (hs_eq (hs_eq (hr.at 69 (by decide) (by decide) rfl))))))))))))) (Nat.le_of_ble_eq_true rfl) rfl ?_
  refine ar_ldA rfl rfl ?_
  refine ar_get rfl (hs_eq (hs_ne (by decide) (hs_ne (by decide) (hs_eq (hs_ne (by decide) (hs_ne (by decide) (hs_eq (hs_ne (by decide) (hs_ne (by decide) (hs_eq (hs_eq (hs_eq (hs_eq (hr.at 69 (by decide) (by decide) rfl)))))))))))))) rfl ?_
  refine ar_if1f rfl (by decide) ?_
  refine ar_push rfl ?_
  refine ar_ldA rfl rfl ?_
  refine ar_get rfl (hs_eq (hs_ne (by decide) (hs_ne (by decide) (hs_eq (hs_ne (by decide) (hs_ne (by decide) (hs_eq (hs_ne (by decide) (hs_ne (by decide) (hs_eq (hs_eq (hs_eq (hs_eq (hr.at 69 (by decide) (by decide) rfl)))))))))))))) rfl ?_
  refine ar_bink (z := (-100)) rfl (by decide) ?_
  refine ar_ret rfl rfl ?_
  exact ⟨rfl, hJ _ _ _⟩
set_option maxRecDepth 20000 in
set_option maxHeartbeats 4000000 in
theorem p1_7_11 (J : aH → Nat → Nat → Prop) (hJ : ∀ h a b, J h a b) (kc ks : Nat) (hkc : 1000 ≤ kc) (hks : 100000 ≤ ks) : aPairI 0 69 131 227 [.inl 11] J hF kc ks := by
  refine ⟨0, 0, _, by omega, by omega, rfl, ?_⟩
  refine ac_ink [some (.inr (.inr (some 0))), some (.inl 11), none, none] mt_131 (Nat.le_of_ble_eq_true rfl) rfl ?_
  refine ar_ldA rfl rfl ?_
  refine ar_ldI rfl rfl ?_
  refine ar_inl (mc := 0) (ms := 0) rfl (rcv_of rfl) (Nat.le_of_ble_eq_true rfl) (Nat.le_of_ble_eq_true rfl) (by omega) (by omega) ?_
  refine ac_ink [some (.inr (.inr (some 0))), some (.inl 11)] mt_166 (Nat.le_of_ble_eq_true rfl) rfl ?_
  refine ar_ldI rfl rfl ?_
  refine ar_if1t rfl (by decide) ?_
  refine ar_ldI rfl rfl ?_
  refine ar_push rfl ?_
  refine ar_if2t rfl (by decide) ?_
  refine ar_ldA rfl rfl ?_
  refine ar_get rfl rfl rfl ?_
  refine ar_ldI rfl rfl ?_
  refine ar_push rfl ?_
  refine ar_bink (z := 1) rfl (by decide) ?_
  refine ar_inl (mc := 0) (ms := 0) rfl (rcv_of rfl) (Nat.le_of_ble_eq_true rfl) (Nat.le_of_ble_eq_true rfl) (by omega) (by omega) ?_
  refine ac_ink [some (.inr (.inr (some 15))), some (.inl 1)] mt_7 (Nat.le_of_ble_eq_true rfl) rfl ?_
  refine ar_ldI rfl rfl ?_
  refine ar_inl (mc := 0) (ms := 0) rfl rfl (Nat.le_of_ble_eq_true rfl) (Nat.le_of_ble_eq_true rfl) (by omega) (by omega) ?_
  refine ac_ink [some (.inl 1)] mt_175 (Nat.le_of_ble_eq_true rfl) rfl ?_
  refine ar_ldI rfl rfl ?_
  refine ar_push rfl ?_
  refine ar_push rfl ?_
  refine ar_callv rfl rfl (Nat.le_of_ble_eq_true rfl) (Nat.le_of_ble_eq_true rfl) rfl (sp_within _ _ _ _ _) ?_
  refine ar_ret rfl (bi_ret _) ?_
  show aRun _ (aCall Mt _) _ 4 (_, [_], _, _, _)
  refine ar_if1f rfl (bi_e0f (by decide)) ?_
  refine ar_ldA rfl rfl ?_
  refine ar_get rfl rfl rfl ?_
  refine ar_ldI rfl rfl ?_
  refine ar_aldA rfl rfl (by decide) rfl ?_
  refine ar_go rfl ?_
  refine ar_ret rfl rfl ?_
  show aRun _ (aCall Mt _) _ 36 (_, [_], _, _, _)
  refine ar_ret rfl rfl ?_
  show aRun _ (aCall Mt _) _ 5 (_, [_], _, _, _)
  refine ar_svAk [some (.inr (.inr (some 0))), some (.inl 11), some (.inr (.inr (some 25))), none] rfl rfl ?_
  refine ar_ldA rfl rfl ?_
  refine ar_nulS rfl ?_
  refine ar_ldA rfl rfl ?_
  refine ar_get rfl rfl rfl ?_
  refine ar_ldA rfl rfl ?_
  refine ar_inl (mc := 0) (ms := 0) rfl (rcv_of rfl) (Nat.le_of_ble_eq_true rfl) (Nat.le_of_ble_eq_true rfl) (by omega) (by omega) ?_
  refine ac_ink [some (.inr (.inr (some 5))), some (.inr (.inr (some 25))), none] mt_94 (Nat.le_of_ble_eq_true rfl) rfl ?_
  refine ar_ldA rfl rfl ?_
  refine ar_push rfl ?_
  refine ar_put rfl rfl (Nat.le_of_ble_eq_true rfl) rfl ?_
  refine ar_ldA rfl rfl ?_
  refine ar_push rfl ?_
  refine ar_put rfl (hs_eq rfl) (Nat.le_of_ble_eq_true rfl) rfl ?_
  refine ar_ldA rfl rfl ?_
  refine ar_push rfl ?_
  refine ar_put rfl (hs_eq (hs_eq rfl)) (Nat.le_of_ble_eq_true rfl) rfl ?_
  refine ar_ldA rfl rfl ?_
  refine ar_inl (mc := 0) (ms := 0) rfl (rcv_of (hs_eq (hs_eq (hs_eq rfl)))) (Nat.le_of_ble_eq_true rfl) (Nat.le_of_ble_eq_true rfl) (by omega) (by omega) ?_
  refine ac_ink [some (.inr (.inr (some 5))), none] mt_100 (Nat.le_of_ble_eq_true rfl) rfl ?_
  refine ar_ldA rfl rfl ?_
  refine ar_push rfl ?_
  refine ar_inl (mc := 0) (ms := 0) rfl (rcv_of (hs_eq (hs_eq (hs_eq rfl)))) (Nat.le_of_ble_eq_true rfl) (Nat.le_of_ble_eq_true rfl) (by omega) (by omega) ?_
  refine ac_ink [some (.inr (.inr (some 5))), some (.inl 0), none] mt_101 (Nat.le_of_ble_eq_true rfl) rfl ?_
  refine ar_ldA rfl rfl ?_
  refine ar_ldI rfl rfl ?_
  refine ar_inl (mc := 0) (ms := 0) rfl (rcv_of (hs_eq (hs_eq (hs_eq rfl)))) (Nat.le_of_ble_eq_true rfl) (Nat.le_of_ble_eq_true rfl) (by omega) (by omega) ?_
  refine ac_ink [some (.inr (.inr (some 5))), some (.inl 0), none] mt_102 (Nat.le_of_ble_eq_true rfl) rfl ?_
  refine ar_ldA rfl rfl ?_
  refine ar_ldI rfl rfl ?_
  refine ar_inl (mc := 0) (ms := 0) rfl (rcv_of (hs_eq (hs_eq (hs_eq rfl)))) (Nat.le_of_ble_eq_true rfl) (Nat.le_of_ble_eq_true rfl) (by omega) (by omega) ?_
  refine ac_ink [some (.inr (.inr (some 5))), some (.inl 0), none] mt_103 (Nat.le_of_ble_eq_true rfl) rfl ?_
  refine ar_ldA rfl rfl ?_
  refine ar_ldI rfl rfl ?_
  refine ar_inl (mc := 0) (ms := 0) rfl (rcv_of (hs_eq (hs_eq (hs_eq rfl)))) (Nat.le_of_ble_eq_true rfl) (Nat.le_of_ble_eq_true rfl) (by omega) (by omega) ?_
  refine ac_ink [some (.inr (.inr (some 5))), some (.inl 0), none, none] mt_104 (Nat.le_of_ble_eq_true rfl) rfl ?_
  refine ar_ldA rfl rfl ?_
  refine ar_ldI rfl rfl ?_
  refine ar_inl (mc := 0) (ms := 0) rfl (rcv_of (hs_eq (hs_eq (hs_eq rfl)))) (Nat.le_of_ble_eq_true rfl) (Nat.le_of_ble_eq_true rfl) (by omega) (by omega) ?_
  refine ac_ink [some (.inr (.inr (some 5))), some (.inl 0), none, none] mt_105 (Nat.le_of_ble_eq_true rfl) rfl ?_
  refine ar_ldA rfl rfl ?_
  refine ar_ldI rfl rfl ?_
  refine ar_inl (mc := 0) (ms := 0) rfl (rcv_of (hs_eq (hs_eq (hs_eq rfl)))) (Nat.le_of_ble_eq_true rfl) (Nat.le_of_ble_eq_true rfl) (by omega) (by omega) ?_
  refine ac_ink [some (.inr (.inr (some 5))), some (.inl 0), none] mt_106 (Nat.le_of_ble_eq_true rfl) rfl ?_
  refine ar_ldA rfl rfl ?_
  refine ar_inl (mc := 0) (ms := 0) rfl (rcv_of (hs_eq (hs_eq (hs_eq rfl)))) (Nat.le_of_ble_eq_true rfl) (Nat.le_of_ble_eq_true rfl) (by omega) (by omega) ?_
  refine ac_ink [some (.inr (.inr (some 5)))] mt_95 (Nat.le_of_ble_eq_true rfl) rfl ?_
  refine ar_ldA rfl rfl ?_
  refine ar_get rfl (hs_eq (hs_eq (hs_eq rfl))) rfl ?_
  refine ar_if1f rfl (by decide) ?_
  refine ar_ldA rfl rfl ?_
  refine ar_get rfl (hs_eq (hs_eq (hs_eq rfl))) rfl ?_
  refine ar_ldA rfl rfl ?_
  refine ar_get rfl (hs_eq (hs_eq (hs_eq rfl))) rfl ?_
  refine ar_if2t rfl (by decide) ?_
  refine ar_push rfl ?_
  refine ar_ret rfl rfl ?_
  show aRun _ (aCall Mt _) _ 4 (_, [_], _, _, _)
  refine ar_svIk [some (.inr (.inr (some 5))), some (.inl 0), some (.inl (-1))] rfl rfl ?_
  refine ar_ldI rfl rfl ?_
  refine ar_push rfl ?_
  refine ar_push rfl ?_
  refine ar_callv rfl rfl (Nat.le_of_ble_eq_true rfl) (Nat.le_of_ble_eq_true rfl) rfl (sp_within _ _ _ _ _) ?_
  refine ar_if1t rfl (bi_e0t (by decide)) ?_
  refine ar_ldI rfl rfl ?_
  refine ar_push rfl ?_
  refine ar_push rfl ?_
  refine ar_callv rfl rfl (Nat.le_of_ble_eq_true rfl) (Nat.le_of_ble_eq_true rfl) rfl (sp_within _ _ _ _ _) ?_
  refine ar_if1t rfl (bi_e0t (by decide)) ?_
  refine ar_ldI rfl rfl ?_
  refine ar_push rfl ?_
  refine ar_if2t rfl (by decide) ?_
  refine ar_ldA rfl rfl ?_
  refine ar_push rfl ?_
  refine ar_inl (mc := 0) (ms := 0) rfl (rcv_of (hs_eq (hs_eq (hs_eq rfl)))) (Nat.le_of_ble_eq_true rfl) (Nat.le_of_ble_eq_true rfl) (by omega) (by omega) ?_
  refine ac_ink [some (.inr (.inr (some 5))), some (.inl 40)] mt_96 (Nat.le_of_ble_eq_true rfl) rfl ?_
  refine ar_ldA rfl rfl ?_
  refine ar_inl (mc := 0) (ms := 0) rfl (rcv_of (hs_eq (hs_eq (hs_eq rfl)))) (Nat.le_of_ble_eq_true rfl) (Nat.le_of_ble_eq_true rfl) (by omega) (by omega) ?_
  refine ac_ink [some (.inr (.inr (some 5)))] mt_95 (Nat.le_of_ble_eq_true rfl) rfl ?_
  refine ar_ldA rfl rfl ?_
  refine ar_get rfl (hs_eq (hs_eq (hs_eq rfl))) rfl ?_
  refine ar_if1f rfl (by decide) ?_
  refine ar_ldA rfl rfl ?_
  refine ar_get rfl (hs_eq (hs_eq (hs_eq rfl))) rfl ?_
  refine ar_ldA rfl rfl ?_
  refine ar_get rfl (hs_eq (hs_eq (hs_eq rfl))) rfl ?_
  refine ar_if2t rfl (by decide) ?_
  refine ar_push rfl ?_
  refine ar_ret rfl rfl ?_
  show aRun _ (aCall Mt _) _ 4 (_, [_], _, _, _)
  refine ar_ldI rfl rfl ?_
  refine ar_if2f rfl (by decide) ?_
  refine ar_push rfl ?_
  refine ar_ret rfl rfl ?_
  show aRun _ (aCall Mt _) _ 88 (_, [_], _, _, _)
  refine ar_if1t rfl (by decide) ?_
  refine ar_ldA rfl rfl ?_
  refine ar_push rfl ?_
  refine ar_inl (mc := 0) (ms := 0) rfl (rcv_of (hs_eq (hs_eq (hs_eq rfl)))) (Nat.le_of_ble_eq_true rfl) (Nat.le_of_ble_eq_true rfl) (by omega) (by omega) ?_
  refine ac_ink [some (.inr (.inr (some 5))), some (.inl 33)] mt_96 (Nat.le_of_ble_eq_true rfl) rfl ?_
  refine ar_ldA rfl rfl ?_
  refine ar_inl (mc := 0) (ms := 0) rfl (rcv_of (hs_eq (hs_eq (hs_eq rfl)))) (Nat.le_of_ble_eq_true rfl) (Nat.le_of_ble_eq_true rfl) (by omega) (by omega) ?_
  refine ac_ink [some (.inr (.inr (some 5)))] mt_95 (Nat.le_of_ble_eq_true rfl) rfl ?_
  refine ar_ldA rfl rfl ?_
  refine ar_get rfl (hs_eq (hs_eq (hs_eq rfl))) rfl ?_
  refine ar_if1f rfl (by decide) ?_
  refine ar_ldA rfl rfl ?_
  refine ar_get rfl (hs_eq (hs_eq (hs_eq rfl))) rfl ?_
  refine ar_ldA rfl rfl ?_
  refine ar_get rfl (hs_eq (hs_eq (hs_eq rfl))) rfl ?_
  refine ar_if2t rfl (by decide) ?_
  refine ar_push rfl ?_
  refine ar_ret rfl rfl ?_
  show aRun _ (aCall Mt _) _ 4 (_, [_], _, _, _)
  refine ar_ldI rfl rfl ?_
  refine ar_if2f rfl (by decide) ?_
  refine ar_push rfl ?_
  refine ar_ret rfl rfl ?_
  show aRun _ (aCall Mt _) _ 120 (_, [_], _, _, _)
  refine ar_if1t rfl (by decide) ?_
  refine ar_ldA rfl rfl ?_
  refine ar_push rfl ?_
  refine ar_inl (mc := 0) (ms := 0) rfl (rcv_of (hs_eq (hs_eq (hs_eq rfl)))) (Nat.le_of_ble_eq_true rfl) (Nat.le_of_ble_eq_true rfl) (by omega) (by omega) ?_
  refine ac_ink [some (.inr (.inr (some 5))), some (.inl 45)] mt_96 (Nat.le_of_ble_eq_true rfl) rfl ?_
  refine ar_ldA rfl rfl ?_
  refine ar_inl (mc := 0) (ms := 0) rfl (rcv_of (hs_eq (hs_eq (hs_eq rfl)))) (Nat.le_of_ble_eq_true rfl) (Nat.le_of_ble_eq_true rfl) (by omega) (by omega) ?_
  refine ac_ink [some (.inr (.inr (some 5)))] mt_95 (Nat.le_of_ble_eq_true rfl) rfl ?_
  refine ar_ldA rfl rfl ?_
  refine ar_get rfl (hs_eq (hs_eq (hs_eq rfl))) rfl ?_
  refine ar_if1f rfl (by decide) ?_
  refine ar_ldA rfl rfl ?_
  refine ar_get rfl (hs_eq (hs_eq (hs_eq rfl))) rfl ?_
  refine ar_ldA rfl rfl ?_
  refine ar_get rfl (hs_eq (hs_eq (hs_eq rfl))) rfl ?_
  refine ar_if2t rfl (by decide) ?_
  refine ar_push rfl ?_
  refine ar_ret rfl rfl ?_
  show aRun _ (aCall Mt _) _ 4 (_, [_], _, _, _)
  refine ar_ldI rfl rfl ?_
  refine ar_if2f rfl (by decide) ?_
  refine ar_push rfl ?_
  refine ar_ret rfl rfl ?_
  show aRun _ (aCall Mt _) _ 145 (_, [_], _, _, _)
  refine ar_if1t rfl (by decide) ?_
  refine ar_ldA rfl rfl ?_
  refine ar_inl (mc := 0) (ms := 0) rfl (rcv_of (hs_eq (hs_eq (hs_eq rfl)))) (Nat.le_of_ble_eq_true rfl) (Nat.le_of_ble_eq_true rfl) (by omega) (by omega) ?_
  refine ac_ink [some (.inr (.inr (some 5)))] mt_99 (Nat.le_of_ble_eq_true rfl) rfl ?_
  refine ar_ldA rfl rfl ?_
  refine ar_get rfl (hs_eq (hs_eq (hs_eq rfl))) rfl ?_
  refine ar_push rfl ?_
  refine ar_if2f rfl (by decide) ?_
  refine ar_ldA rfl rfl ?_
  refine ar_ldA rfl rfl ?_
  refine ar_get rfl (hs_eq (hs_eq (hs_eq rfl))) rfl ?_
  refine ar_put rfl (hs_eq (hs_eq (hs_eq rfl))) (Nat.le_of_ble_eq_true rfl) rfl ?_
  refine ar_ret0 rfl ?_
  show aRun _ (aCall Mt _) _ 168 (_, [], _, _, _)
  refine ar_ret0 rfl ?_
  show aRun _ (aCall Mt _) _ 5 (_, [], _, _, _)
  refine ar_push rfl ?_
  refine ar_svIk [some (.inr (.inr (some 5))), some (.inl 0), some (.inl 0), none] rfl rfl ?_
  refine ar_ldI rfl rfl ?_
  refine ar_ldA rfl rfl ?_
  refine ar_get rfl (hs_eq (hs_eq (hs_eq (hs_eq rfl)))) rfl ?_
  refine ar_if2t rfl (by decide) ?_
  refine ar_ret0 rfl ?_
  show aRun _ (aCall Mt _) _ 5 (_, [], _, _, _)
  refine ar_push rfl ?_
  refine ar_svIk [some (.inr (.inr (some 5))), some (.inl 0), some (.inl 0), none] rfl rfl ?_
  refine ar_ldI rfl rfl ?_
  refine ar_ldA rfl rfl ?_
  refine ar_get rfl (hs_eq (hs_eq (hs_eq (hs_eq rfl)))) rfl ?_
  refine ar_if2t rfl (by decide) ?_
  refine ar_ret0 rfl ?_
  show aRun _ (aCall Mt _) _ 5 (_, [], _, _, _)
  refine ar_ldA rfl rfl ?_
  refine ar_push rfl ?_
  refine ar_inl (mc := 0) (ms := 0) rfl (rcv_of (hs_eq (hs_eq (hs_eq (hs_eq rfl))))) (Nat.le_of_ble_eq_true rfl) (Nat.le_of_ble_eq_true rfl) (by omega) (by omega) ?_
  refine ac_ink [some (.inr (.inr (some 5))), some (.inl 60)] mt_97 (Nat.le_of_ble_eq_true rfl) rfl ?_
  refine ar_ldA rfl rfl ?_
  refine ar_get rfl (hs_eq (hs_eq (hs_eq (hs_eq rfl)))) rfl ?_
  refine ar_push rfl ?_
  refine ar_if2t rfl (by decide) ?_
  refine ar_push rfl ?_
  refine ar_ret rfl rfl ?_
  show aRun _ (aCall Mt _) _ 11 (_, [_], _, _, _)
  refine ar_if1t rfl (by decide) ?_
  refine ar_ldA rfl rfl ?_
  refine ar_push rfl ?_
  refine ar_inl (mc := 0) (ms := 0) rfl (rcv_of (hs_eq (hs_eq (hs_eq (hs_eq rfl))))) (Nat.le_of_ble_eq_true rfl) (Nat.le_of_ble_eq_true rfl) (by omega) (by omega) ?_
  refine ac_ink [some (.inr (.inr (some 5))), some (.inl 61)] mt_97 (Nat.le_of_ble_eq_true rfl) rfl ?_
  refine ar_ldA rfl rfl ?_
  refine ar_get rfl (hs_eq (hs_eq (hs_eq (hs_eq rfl)))) rfl ?_
  refine ar_push rfl ?_
  refine ar_if2t rfl (by decide) ?_
  refine ar_push rfl ?_
  refine ar_ret rfl rfl ?_
  show aRun _ (aCall Mt _) _ 25 (_, [_], _, _, _)
  refine ar_if1t rfl (by decide) ?_
  refine ar_ldA rfl rfl ?_
  refine ar_push rfl ?_
  refine ar_inl (mc := 0) (ms := 0) rfl (rcv_of (hs_eq (hs_eq (hs_eq (hs_eq rfl))))) (Nat.le_of_ble_eq_true rfl) (Nat.le_of_ble_eq_true rfl) (by omega) (by omega) ?_
  refine ac_ink [some (.inr (.inr (some 5))), some (.inl 62)] mt_97 (Nat.le_of_ble_eq_true rfl) rfl ?_
  refine ar_ldA rfl rfl ?_
  refine ar_get rfl (hs_eq (hs_eq (hs_eq (hs_eq rfl)))) rfl ?_
  refine ar_push rfl ?_
  refine ar_if2t rfl (by decide) ?_
  refine ar_push rfl ?_
  refine ar_ret rfl rfl ?_
  show aRun _ (aCall Mt _) _ 39 (_, [_], _, _, _)
  refine ar_if1t rfl (by decide) ?_
  refine ar_push rfl ?_
  refine ar_svIk [some (.inr (.inr (some 5))), some (.inl 0), some (.inl 15)] rfl rfl ?_
  refine ar_ldI rfl rfl ?_
  refine ar_push rfl ?_
  refine ar_if2f rfl (by decide) ?_
  refine ar_ret0 rfl ?_
  show aRun _ (aCall Mt _) _ 5 (_, [], _, _, _)
  refine ar_push rfl ?_
  refine ar_svIk [some (.inr (.inr (some 5))), some (.inl 0), some (.inl 0)] rfl rfl ?_
  refine ar_ldI rfl rfl ?_
  refine ar_ldA rfl rfl ?_
  refine ar_get rfl (hs_eq (hs_eq (hs_eq (hs_eq rfl)))) rfl ?_
  refine ar_if2t rfl (by decide) ?_
  refine ar_ret0 rfl ?_
  show aRun _ (aCall Mt _) _ 5 (_, [], _, _, _)
  refine ar_push rfl ?_
  refine ar_svIk [some (.inr (.inr (some 5))), some (.inl 0), some (.inl 0)] rfl rfl ?_
  refine ar_ldI rfl rfl ?_
  refine ar_ldA rfl rfl ?_
  refine ar_get rfl (hs_eq (hs_eq (hs_eq (hs_eq rfl)))) rfl ?_
  refine ar_if2t rfl (by decide) ?_
  refine ar_ret0 rfl ?_
  show aRun _ (aCall Mt _) _ 5 (_, [], _, _, _)
  refine ar_ldA rfl rfl ?_
  refine ar_push rfl ?_
  refine ar_inl (mc := 0) (ms := 0) rfl (rcv_of (hs_eq (hs_eq (hs_eq (hs_eq rfl))))) (Nat.le_of_ble_eq_true rfl) (Nat.le_of_ble_eq_true rfl) (by omega) (by omega) ?_
  refine ac_ink [some (.inr (.inr (some 5))), some (.inl 63)] mt_97 (Nat.le_of_ble_eq_true rfl) rfl ?_
  refine ar_ldA rfl rfl ?_
  refine ar_get rfl (hs_eq (hs_eq (hs_eq (hs_eq rfl)))) rfl ?_
  refine ar_push rfl ?_
  refine ar_if2t rfl (by decide) ?_
  refine ar_push rfl ?_
  refine ar_ret rfl rfl ?_
  show aRun _ (aCall Mt _) _ 11 (_, [_], _, _, _)
  refine ar_if1f rfl (by decide) ?_
  refine ar_ldA rfl rfl ?_
  refine ar_push rfl ?_
  refine ar_push rfl ?_
  refine ar_inl (mc := 0) (ms := 0) rfl (rcv_of (hs_eq (hs_eq (hs_eq (hs_eq rfl))))) (Nat.le_of_ble_eq_true rfl) (Nat.le_of_ble_eq_true rfl) (by omega) (by omega) ?_
  refine ac_ink [some (.inr (.inr (some 5))), some (.inl 15), some (.inl 0)] mt_98 (Nat.le_of_ble_eq_true rfl) rfl ?_
  refine ar_ldA rfl rfl ?_
  refine ar_get rfl (hs_eq (hs_eq (hs_eq (hs_eq rfl)))) rfl ?_
  refine ar_ldA rfl rfl ?_
  refine ar_get rfl (hs_eq (hs_eq (hs_eq (hs_eq rfl)))) rfl ?_
  refine ar_len rfl (hs_ne (by decide) (hs_ne (by decide) (hs_ne (by decide) (hs_ne (by decide) rfl)))) ?_
  refine ar_if2t rfl (by decide) ?_
  refine ar_ldA rfl rfl ?_
  refine ar_get rfl (hs_eq (hs_eq (hs_eq (hs_eq rfl)))) rfl ?_
  refine ar_ldA rfl rfl ?_
  refine ar_get rfl (hs_eq (hs_eq (hs_eq (hs_eq rfl)))) rfl ?_
  refine ar_ldI rfl rfl ?_
  refine ar_ldI rfl rfl ?_
  refine ar_inl (mc := 0) (ms := 0) rfl rfl (Nat.le_of_ble_eq_true rfl) (Nat.le_of_ble_eq_true rfl) (by omega) (by omega) ?_
  refine ac_ink [some (.inl 15), some (.inl 0)] mt_111 (Nat.le_of_ble_eq_true rfl) rfl ?_
  refine ar_ldI rfl rfl ?_
  refine ar_push rfl ?_
  refine ar_bink (z := 0) rfl (by decide) ?_
  refine ar_ldI rfl rfl ?_
  refine ar_bink (z := 15) rfl (by decide) ?_
  refine ar_ret rfl rfl ?_
  show aRun _ (aCall Mt _) _ 26 (_, [_, _, _], _, _, _)
  refine ar_ast rfl (hs_ne (by decide) (hs_ne (by decide) (hs_ne (by decide) (hs_ne (by decide) rfl)))) (by decide) (Nat.le_of_ble_eq_true rfl) ?_
  refine ar_ldA rfl rfl ?_
  refine ar_dup rfl rfl ?_
  refine ar_get rfl (hs_ne (by decide) (hs_eq (hs_eq (hs_eq (hs_eq rfl))))) rfl ?_
  refine ar_push rfl ?_
  refine ar_bink (z := 1) rfl (by decide) ?_
  refine ar_put rfl (hs_ne (by decide) (hs_eq (hs_eq (hs_eq (hs_eq rfl))))) (Nat.le_of_ble_eq_true rfl) rfl ?_
  refine ar_ret0 rfl ?_
  show aRun _ (aCall Mt _) _ 21 (_, [], _, _, _)
  refine ar_ret0 rfl ?_
  show aRun _ (aCall Mt _) _ 19 (_, [], _, _, _)
  refine ar_push rfl ?_
  refine ar_svIk [some (.inr (.inr (some 5))), some (.inr (.inr (some 25))), some (.inl 0)] rfl rfl ?_
  refine ar_ldI rfl rfl ?_
  refine ar_ldA rfl rfl ?_
  refine ar_get rfl (hs_eq (hs_ne (by decide) (hs_eq (hs_eq (hs_eq (hs_eq rfl)))))) rfl ?_
  refine ar_if2t rfl (by decide) ?_
  refine ar_ldA rfl rfl ?_
  refine ar_get rfl (hs_eq (hs_ne (by decide) (hs_eq (hs_eq (hs_eq (hs_eq rfl)))))) rfl ?_
  refine ar_push rfl ?_
  refine ar_if2t rfl (by decide) ?_
  refine ar_ldA rfl rfl ?_
  refine ar_get rfl (hs_eq (hs_ne (by decide) (hs_eq (hs_eq (hs_eq (hs_eq rfl)))))) rfl ?_
  refine ar_push rfl ?_
  refine ar_if2t rfl (by decide) ?_
  refine ar_ldA rfl rfl ?_
  refine ar_push rfl ?_
  refine ar_put rfl (hs_eq (hs_ne (by decide) (hs_eq (hs_eq (hs_eq (hs_eq rfl)))))) (Nat.le_of_ble_eq_true rfl) rfl ?_
  refine ar_ldA rfl rfl ?_
  refine ar_get rfl (hs_eq (hs_eq (hs_ne (by decide) (hs_eq (hs_eq (hs_eq (hs_eq rfl))))))) rfl ?_
  refine ar_ret rfl rfl ?_
  show aRun _ (aCall Mt _) _ 20 (_, [_], _, _, _)
  refine ar_svIk [some (.inr (.inr (some 0))), some (.inl 11), some (.inr (.inr (some 25))), some (.inl 0)] rfl rfl ?_
  refine ar_ldI rfl rfl ?_
  refine ar_push rfl ?_
  refine ar_if2f rfl (by decide) ?_
  refine ar_push rfl ?_
  refine ar_ldI rfl rfl ?_
  refine ar_bink (z := (-100)) rfl (by decide) ?_
  refine ar_ret rfl rfl ?_
  refine ⟨_, 0, 0, _, rfl, Nat.zero_le _, Nat.zero_le _, (hs_ne (by decide) (hs_ne (by decide) (hs_ne (by decide) (hs_ne (by decide) (hs_ne (by decide) (hs_ne (by decide) (hs_ne (by decide) rfl))))))), ?_⟩
  refine rgen (((((((rFr_F.sets (by decide)).sets (by decide)).sets (by decide)).sets (by decide)).sets (by decide)).sets (by decide)).sets (by decide)) (fun g hr => ?_)
  refine ac_ink [some (.inr (.inr (some 69))), some (.inl 11), none, none] mt_227 (Nat.le_of_ble_eq_true rfl) rfl ?_
  refine ar_ldI rfl rfl ?_
  refine ar_push rfl ?_
  refine ar_push rfl ?_
  refine ar_callv rfl rfl (Nat.le_of_ble_eq_true rfl) (Nat.le_of_ble_eq_true rfl) rfl (sp_in _ _ _ _ _) ?_
  refine ar_if1f rfl (bi_n0f (by decide)) ?_
  refine ar_ldI rfl rfl ?_
  refine ar_push rfl ?_
  refine ar_push rfl ?_
  refine ar_callv rfl rfl (Nat.le_of_ble_eq_true rfl) (Nat.le_of_ble_eq_true rfl) rfl (sp_in _ _ _ _ _) ?_
  refine ar_if1t rfl (bi_n0t (by decide)) ?_
  refine ar_ldA rfl rfl ?_
  refine ar_push rfl ?_
  refine ar_put rfl (hr.at 69 (by decide) (by decide) rfl) (Nat.le_of_ble_eq_true rfl) rfl ?_
  refine ar_ldA rfl rfl ?_
  refine ar_push rfl ?_
  refine ar_put rfl (hs_eq (hr.at 69 (by decide) (by decide) rfl)) (Nat.le_of_ble_eq_true rfl) rfl ?_
  refine ar_ldA rfl rfl ?_
  refine ar_push rfl ?_
  refine ar_put rfl (hs_eq (hs_eq (hr.at 69 (by decide) (by decide) rfl))) (Nat.le_of_ble_eq_true rfl) rfl ?_
  refine ar_ldA rfl rfl ?_
  refine ar_push rfl ?_
  refine ar_put rfl (hs_eq (hs_eq (hs_eq (hr.at 69 (by decide) (by decide) rfl)))) (Nat.le_of_ble_eq_true rfl) rfl ?_
  refine ar_ldA rfl rfl ?_
  refine ar_get rfl (hs_eq (hs_eq (hs_eq (hs_eq (hr.at 69 (by decide) (by decide) rfl))))) rfl ?_
  refine ar_push rfl ?_
  refine ar_push rfl ?_
  refine ar_ast rfl (hs_ne (by decide) (hs_ne (by decide) (hs_ne (by decide) (hs_ne (by decide) (hr.at 85 (by decide) (by decide) rfl))))) (by decide) (Nat.le_of_ble_eq_true rfl) ?_
  refine ar_ldA rfl rfl ?_
  refine ar_inl (mc := 0) (ms := 0) rfl (rcv_of (hs_ne (by decide) (hs_eq (hs_eq (hs_eq (hs_eq (hr.at 69 (by decide) (by decide) rfl))))))) (Nat.le_of_ble_eq_true rfl) (Nat.le_of_ble_eq_true rfl) (by omega) (by omega) ?_
  refine ac_ink [some (.inr (.inr (some 69))), none] mt_225 (Nat.le_of_ble_eq_true rfl) rfl ?_
  refine ar_push rfl ?_
  refine ar_ldA rfl rfl ?_
  refine ar_get rfl (hs_ne (by decide) (hs_eq (hs_eq (hs_eq (hs_eq (hr.at 69 (by decide) (by decide) rfl)))))) rfl ?_
  refine ar_push rfl ?_
  refine ar_ald rfl (hs_eq (hs_ne (by decide) (hs_ne (by decide) (hs_ne (by decide) (hs_ne (by decide) (hr.at 85 (by decide) (by decide) rfl)))))) (by decide) rfl ?_
  refine ar_bink (z := 671) rfl (by decide) ?_
  refine ar_svIk [some (.inr (.inr (some 69))), some (.inl 671)] rfl rfl ?_
  refine ar_ldA rfl rfl ?_
  refine ar_get rfl (hs_ne (by decide) (hs_eq (hs_eq (hs_eq (hs_eq (hr.at 69 (by decide) (by decide) rfl)))))) rfl ?_
  refine ar_ldI rfl rfl ?_
  refine ar_ldA rfl rfl ?_
  refine ar_get rfl (hs_ne (by decide) (hs_eq (hs_eq (hs_eq (hs_eq (hr.at 69 (by decide) (by decide) rfl)))))) rfl ?_
  refine ar_un rfl ?_
  refine ar_ast rfl (hs_ne (by decide) (hs_ne (by decide) (hs_ne (by decide) (hs_ne (by decide) (hs_ne (by decide) (hr.at 86 (by decide) (by decide) rfl)))))) (by decide) (Nat.le_of_ble_eq_true rfl) ?_
  refine ar_ldA rfl rfl ?_
  refine ar_inl (mc := 0) (ms := 0) rfl (rcv_of (hs_ne (by decide) (hs_ne (by decide) (hs_eq (hs_eq (hs_eq (hs_eq (hr.at 69 (by decide) (by decide) rfl)))))))) (Nat.le_of_ble_eq_true rfl) (Nat.le_of_ble_eq_true rfl) (by omega) (by omega) ?_
  refine ac_ink [some (.inr (.inr (some 69)))] mt_224 (Nat.le_of_ble_eq_true rfl) rfl ?_
  refine ar_ldA rfl rfl ?_
  refine ar_inl (mc := 0) (ms := 0) rfl (rcv_of (hs_ne (by decide) (hs_ne (by decide) (hs_eq (hs_eq (hs_eq (hs_eq (hr.at 69 (by decide) (by decide) rfl)))))))) (Nat.le_of_ble_eq_true rfl) (Nat.le_of_ble_eq_true rfl) (by omega) (by omega) ?_
  refine ac_ink [some (.inr (.inr (some 69)))] mt_223 (Nat.le_of_ble_eq_true rfl) rfl ?_
  refine ar_ldA rfl rfl ?_
  refine ar_inl (mc := 0) (ms := 0) rfl (rcv_of (hs_ne (by decide) (hs_ne (by decide) (hs_eq (hs_eq (hs_eq (hs_eq (hr.at 69 (by decide) (by decide) rfl)))))))) (Nat.le_of_ble_eq_true rfl) (Nat.le_of_ble_eq_true rfl) (by omega) (by omega) ?_
  refine ac_ink [some (.inr (.inr (some 69))), none] mt_222 (Nat.le_of_ble_eq_true rfl) rfl ?_
  refine ar_ldA rfl rfl ?_
  refine ar_inl (mc := 0) (ms := 0) rfl (rcv_of (hs_ne (by decide) (hs_ne (by decide) (hs_eq (hs_eq (hs_eq (hs_eq (hr.at 69 (by decide) (by decide) rfl)))))))) (Nat.le_of_ble_eq_true rfl) (Nat.le_of_ble_eq_true rfl) (by omega) (by omega) ?_
  refine ac_ink [some (.inr (.inr (some 69))), none] mt_221 (Nat.le_of_ble_eq_true rfl) rfl ?_
  refine ar_ldA rfl rfl ?_
  refine ar_inl (mc := 0) (ms := 0) rfl (rcv_of (hs_ne (by decide) (hs_ne (by decide) (hs_eq (hs_eq (hs_eq (hs_eq (hr.at 69 (by decide) (by decide) rfl)))))))) (Nat.le_of_ble_eq_true rfl) (Nat.le_of_ble_eq_true rfl) (by omega) (by omega) ?_
  refine ac_ink [some (.inr (.inr (some 69))), none] mt_220 (Nat.le_of_ble_eq_true rfl) rfl ?_
  refine ar_ldA rfl rfl ?_
  refine ar_inl (mc := 0) (ms := 0) rfl (rcv_of (hs_ne (by decide) (hs_ne (by decide) (hs_eq (hs_eq (hs_eq (hs_eq (hr.at 69 (by decide) (by decide) rfl)))))))) (Nat.le_of_ble_eq_true rfl) (Nat.le_of_ble_eq_true rfl) (by omega) (by omega) ?_
  refine ac_ink [some (.inr (.inr (some 69))), none] mt_219 (Nat.le_of_ble_eq_true rfl) rfl ?_
  refine ar_ldA rfl rfl ?_
  refine ar_inl (mc := 0) (ms := 0) rfl (rcv_of (hs_ne (by decide) (hs_ne (by decide) (hs_eq (hs_eq (hs_eq (hs_eq (hr.at 69 (by decide) (by decide) rfl)))))))) (Nat.le_of_ble_eq_true rfl) (Nat.le_of_ble_eq_true rfl) (by omega) (by omega) ?_
  refine ac_ink [some (.inr (.inr (some 69)))] mt_213 (Nat.le_of_ble_eq_true rfl) rfl ?_
  refine ar_ldA rfl rfl ?_
  refine ar_get rfl (hs_ne (by decide) (hs_ne (by decide) (hs_eq (hs_eq (hs_eq (hs_eq (hr.at 69 (by decide) (by decide) rfl))))))) rfl ?_
  refine ar_ldA rfl rfl ?_
  refine ar_get rfl (hs_ne (by decide) (hs_ne (by decide) (hs_eq (hs_eq (hs_eq (hs_eq (hr.at 69 (by decide) (by decide) rfl))))))) rfl ?_
  refine ar_if2t rfl (by decide) ?_
  refine ar_push rfl ?_
  refine ar_ret rfl rfl ?_
  show aRun _ (aCall Mt _) _ 4 (_, [_], _, _, _)
  refine ar_svIk [some (.inr (.inr (some 69))), some (.inl (-1))] rfl rfl ?_
  refine ar_ldI rfl rfl ?_
  refine ar_inl (mc := 0) (ms := 0) rfl rfl (Nat.le_of_ble_eq_true rfl) (Nat.le_of_ble_eq_true rfl) (by omega) (by omega) ?_
  refine ac_ink [some (.inl (-1))] mt_216 (Nat.le_of_ble_eq_true rfl) rfl ?_
  refine ar_ldI rfl rfl ?_
  refine ar_tabO rfl (by decide) ?_
  refine ar_push rfl ?_
  refine ar_ret rfl rfl ?_
  show aRun _ (aCall Mt _) _ 9 (_, [_], _, _, _)
  refine ar_if1t rfl (by decide) ?_
  refine ar_ldI rfl rfl ?_
  refine ar_push rfl ?_
  refine ar_if2f rfl (by decide) ?_
  refine ar_ldI rfl rfl ?_
  refine ar_push rfl ?_
  refine ar_if2t rfl (by decide) ?_
  refine ar_ldI rfl rfl ?_
  refine ar_push rfl ?_
  refine ar_if2t rfl (by decide) ?_
  refine ar_ldA rfl rfl ?_
  refine ar_inl (mc := 0) (ms := 0) rfl (rcv_of (hs_ne (by decide) (hs_ne (by decide) (hs_eq (hs_eq (hs_eq (hs_eq (hr.at 69 (by decide) (by decide) rfl)))))))) (Nat.le_of_ble_eq_true rfl) (Nat.le_of_ble_eq_true rfl) (by omega) (by omega) ?_
  refine ac_ink [some (.inr (.inr (some 69))), none, none] mt_218 (Nat.le_of_ble_eq_true rfl) rfl ?_
  refine ar_push rfl ?_
  refine ar_svIk [some (.inr (.inr (some 69))), some (.inl 0), none] rfl rfl ?_
  refine ar_push rfl ?_
  refine ar_svIk [some (.inr (.inr (some 69))), some (.inl 0), some (.inl 0)] rfl rfl ?_
  refine ar_ldI rfl rfl ?_
  refine ar_push rfl ?_
  refine ar_if2f rfl (by decide) ?_
  refine ar_ldA rfl rfl ?_
  refine ar_inl (mc := 0) (ms := 0) rfl (rcv_of (hs_ne (by decide) (hs_ne (by decide) (hs_eq (hs_eq (hs_eq (hs_eq (hr.at 69 (by decide) (by decide) rfl)))))))) (Nat.le_of_ble_eq_true rfl) (Nat.le_of_ble_eq_true rfl) (by omega) (by omega) ?_
  refine ac_ink [some (.inr (.inr (some 69)))] mt_213 (Nat.le_of_ble_eq_true rfl) rfl ?_
  refine ar_ldA rfl rfl ?_
  refine ar_get rfl (hs_ne (by decide) (hs_ne (by decide) (hs_eq (hs_eq (hs_eq (hs_eq (hr.at 69 (by decide) (by decide) rfl))))))) rfl ?_
  refine ar_ldA rfl rfl ?_
  refine ar_get rfl (hs_ne (by decide) (hs_ne (by decide) (hs_eq (hs_eq (hs_eq (hs_eq (hr.at 69 (by decide) (by decide) rfl))))))) rfl ?_
  refine ar_if2t rfl (by decide) ?_
  refine ar_push rfl ?_
  refine ar_ret rfl rfl ?_
  show aRun _ (aCall Mt _) _ 14 (_, [_], _, _, _)
  refine ar_push rfl ?_
  refine ar_push rfl ?_
  refine ar_callv rfl rfl (Nat.le_of_ble_eq_true rfl) (Nat.le_of_ble_eq_true rfl) rfl (sp_in _ _ _ _ _) ?_
  refine ar_if1t rfl (bi_e0t (by decide)) ?_
  refine ar_ldI rfl rfl ?_
  refine ar_if1t rfl (by decide) ?_
  refine ar_ldA rfl rfl ?_
  refine ar_inl (mc := 0) (ms := 0) rfl (rcv_of (hs_ne (by decide) (hs_ne (by decide) (hs_eq (hs_eq (hs_eq (hs_eq (hr.at 69 (by decide) (by decide) rfl)))))))) (Nat.le_of_ble_eq_true rfl) (Nat.le_of_ble_eq_true rfl) (by omega) (by omega) ?_
  refine ac_ink [some (.inr (.inr (some 69)))] mt_214 (Nat.le_of_ble_eq_true rfl) rfl ?_
  refine ar_ldA rfl rfl ?_
  refine ar_get rfl (hs_ne (by decide) (hs_ne (by decide) (hs_eq (hs_eq (hs_eq (hs_eq (hr.at 69 (by decide) (by decide) rfl))))))) rfl ?_
  refine ar_if1f rfl (by decide) ?_
  refine ar_ldA rfl rfl ?_
  refine ar_ldA rfl rfl ?_
  refine ar_get rfl (hs_ne (by decide) (hs_ne (by decide) (hs_eq (hs_eq (hs_eq (hs_eq (hr.at 69 (by decide) (by decide) rfl))))))) rfl ?_
  refine ar_put rfl (hs_ne (by decide) (hs_ne (by decide) (hs_eq (hs_eq (hs_eq (hs_eq (hr.at 69 (by decide) (by decide) rfl))))))) (Nat.le_of_ble_eq_true rfl) rfl ?_
  refine ar_ret0 rfl ?_
  show aRun _ (aCall Mt _) _ 75 (_, [], _, _, _)
  refine ar_ldA rfl rfl ?_
  refine ar_push rfl ?_
  refine ar_ldI rfl rfl ?_
  refine ar_inl (mc := 0) (ms := 0) rfl (rcv_of (hs_eq (hs_ne (by decide) (hs_ne (by decide) (hs_eq (hs_eq (hs_eq (hs_eq (hr.at 69 (by decide) (by decide) rfl))))))))) (Nat.le_of_ble_eq_true rfl) (Nat.le_of_ble_eq_true rfl) (by omega) (by omega) ?_
  refine ac_ink [some (.inr (.inr (some 69))), some (.inl 1), some (.inl 0)] mt_215 (Nat.le_of_ble_eq_true rfl) rfl ?_
  refine ar_ldA rfl rfl ?_
  refine ar_get rfl (hs_eq (hs_ne (by decide) (hs_ne (by decide) (hs_eq (hs_eq (hs_eq (hs_eq (hr.at 69 (by decide) (by decide) rfl)))))))) rfl ?_
  refine ar_push rfl ?_
  refine ar_ldA rfl rfl ?_
  refine ar_get rfl (hs_eq (hs_ne (by decide) (hs_ne (by decide) (hs_eq (hs_eq (hs_eq (hs_eq (hr.at 69 (by decide) (by decide) rfl)))))))) rfl ?_
  refine ar_bink (z := 1430) rfl (by decide) ?_
  refine ar_ldI rfl rfl ?_
  refine ar_un rfl ?_
  refine ar_ast rfl (hs_ne (by decide) (hs_ne (by decide) (hs_ne (by decide) (hs_ne (by decide) (hs_ne (by decide) (hs_ne (by decide) (hs_ne (by decide) (hr.at 83 (by decide) (by decide) rfl)))))))) (by decide) (Nat.le_of_ble_eq_true rfl) ?_
  refine ar_ldA rfl rfl ?_
  refine ar_get rfl (hs_ne (by decide) (hs_eq (hs_ne (by decide) (hs_ne (by decide) (hs_eq (hs_eq (hs_eq (hs_eq (hr.at 69 (by decide) (by decide) rfl))))))))) rfl ?_
  refine ar_push rfl ?_
  refine ar_ldA rfl rfl ?_
  refine ar_get rfl (hs_ne (by decide) (hs_eq (hs_ne (by decide) (hs_ne (by decide) (hs_eq (hs_eq (hs_eq (hs_eq (hr.at 69 (by decide) (by decide) rfl))))))))) rfl ?_
  refine ar_bink (z := 1430) rfl (by decide) ?_
  refine ar_ldI rfl rfl ?_
  refine ar_ast rfl (hs_ne (by decide) (hs_ne (by decide) (hs_ne (by decide) (hs_ne (by decide) (hs_ne (by decide) (hs_ne (by decide) (hs_ne (by decide) (hs_ne (by decide) (hr.at 84 (by decide) (by decide) rfl))))))))) (by decide) (Nat.le_of_ble_eq_true rfl) ?_
  refine ar_ldA rfl rfl ?_
  refine ar_dup rfl rfl ?_
  refine ar_get rfl (hs_ne (by decide) (hs_ne (by decide) (hs_eq (hs_ne (by decide) (hs_ne (by decide) (hs_eq (hs_eq (hs_eq (hs_eq (hr.at 69 (by decide) (by decide) rfl)))))))))) rfl ?_
  refine ar_push rfl ?_
  refine ar_bink (z := 1) rfl (by decide) ?_
  refine ar_put rfl (hs_ne (by decide) (hs_ne (by decide) (hs_eq (hs_ne (by decide) (hs_ne (by decide) (hs_eq (hs_eq (hs_eq (hs_eq (hr.at 69 (by decide) (by decide) rfl)))))))))) (Nat.le_of_ble_eq_true rfl) rfl ?_
  refine ar_ret0 rfl ?_
  show aRun _ (aCall Mt _) _ 81 (_, [], _, _, _)
  refine ar_ret0 rfl ?_
  show aRun _ (aCall Mt _) _ 154 (_, [], _, _, _)
  refine ar_ret0 rfl ?_
  show aRun _ (aCall Mt _) _ 4 (_, [], _, _, _)
  refine ar_ldA rfl rfl ?_
  refine ar_get rfl (hs_eq (hs_ne (by decide) (hs_ne (by decide) (hs_eq (hs_ne (by decide) (hs_ne (by decide) (hs_eq (hs_eq (hs_eq (hs_eq (hr.at 69 (by decide) (by decide) rfl))))))))))) rfl ?_
  refine ar_if1t rfl (by decide) ?_
  refine ar_ret0 rfl ?_
  show aRun _ (aCall Mt _) _ 4 (_, [], _, _, _)
  refine ar_ldA rfl rfl ?_
  refine ar_get rfl (hs_eq (hs_ne (by decide) (hs_ne (by decide) (hs_eq (hs_ne (by decide) (hs_ne (by decide) (hs_eq (hs_eq (hs_eq (hs_eq (hr.at 69 (by decide) (by decide) rfl))))))))))) rfl ?_
  refine ar_if1t rfl (by decide) ?_
  refine ar_ret0 rfl ?_
  show aRun _ (aCall Mt _) _ 4 (_, [], _, _, _)
  refine ar_ldA rfl rfl ?_
  refine ar_inl (mc := 0) (ms := 0) rfl (rcv_of (hs_eq (hs_ne (by decide) (hs_ne (by decide) (hs_eq (hs_ne (by decide) (hs_ne (by decide) (hs_eq (hs_eq (hs_eq (hs_eq (hr.at 69 (by decide) (by decide) rfl)))))))))))) (Nat.le_of_ble_eq_true rfl) (Nat.le_of_ble_eq_true rfl) (by omega) (by omega) ?_
  refine ac_ink [some (.inr (.inr (some 69)))] mt_213 (Nat.le_of_ble_eq_true rfl) rfl ?_
  refine ar_ldA rfl rfl ?_
  refine ar_get rfl (hs_eq (hs_ne (by decide) (hs_ne (by decide) (hs_eq (hs_ne (by decide) (hs_ne (by decide) (hs_eq (hs_eq (hs_eq (hs_eq (hr.at 69 (by decide) (by decide) rfl))))))))))) rfl ?_
  refine ar_ldA rfl rfl ?_
  refine ar_get rfl (hs_eq (hs_ne (by decide) (hs_ne (by decide) (hs_eq (hs_ne (by decide) (hs_ne (by decide) (hs_eq (hs_eq (hs_eq (hs_eq (hr.at 69 (by decide) (by decide) rfl))))))))))) rfl ?_
  refine ar_if2t rfl (by decide) ?_
  refine ar_push rfl ?_
  refine ar_ret rfl rfl ?_
  show aRun _ (aCall Mt _) _ 8 (_, [_], _, _, _)
  refine ar_svIk [some (.inr (.inr (some 69))), some (.inl (-1))] rfl rfl ?_
  refine ar_ldA rfl rfl ?_
  refine ar_get rfl (hs_eq (hs_ne (by decide) (hs_ne (by decide) (hs_eq (hs_ne (by decide) (hs_ne (by decide) (hs_eq (hs_eq (hs_eq (hs_eq (hr.at 69 (by decide) (by decide) rfl))))))))))) rfl ?_
  refine ar_if1t rfl (by decide) ?_
  refine ar_ret0 rfl ?_
  show aRun _ (aCall Mt _) _ 4 (_, [], _, _, _)
  refine ar_ldA rfl rfl ?_
  refine ar_get rfl (hs_eq (hs_ne (by decide) (hs_ne (by decide) (hs_eq (hs_ne (by decide) (hs_ne (by decide) (hs_eq (hs_eq (hs_eq (hs_eq (hr.at 69 (by decide) (by decide) rfl))))))))))) rfl ?_
  refine ar_if1t rfl (by decide) ?_
  refine ar_ret0 rfl ?_
  show aRun _ (aCall Mt _) _ 4 (_, [], _, _, _)
  refine ar_ldA rfl rfl ?_
  refine ar_get rfl (hs_eq (hs_ne (by decide) (hs_ne (by decide) (hs_eq (hs_ne (by decide) (hs_ne (by decide) (hs_eq (hs_eq (hs_eq (hs_eq (hr.at 69 (by decide) (by decide) rfl))))))))))) rfl ?_
  refine ar_if1t rfl (by decide) ?_
  refine ar_ret0 rfl ?_
  show aRun _ (aCall Mt _) _ 27 (_, [], _, _, _)
  refine ar_ldA rfl rfl ?_
  refine ar_get rfl (hs_eq (hs_ne (by decide) (hs_ne (by decide) (hs_eq (hs_ne (by decide) (hs_ne (by decide) (hs_eq (hs_eq (hs_eq (hs_eq (hr.at 69 (by decide) (by decide) rfl))))))))))) rfl ?_
  refine ar_if1t rfl (by decide) ?_
  refine ar_ldA rfl rfl ?_
  refine ar_get rfl (hs_eq (hs_ne (by decide) (hs_ne (by decide) (hs_eq (hs_ne (by decide) (hs_ne (by decide) (hs_eq (hs_eq (hs_eq (hs_eq (hr.at 69 (by decide) (by decide) rfl))))))))))) rfl ?_
  refine ar_ldI rfl rfl ?_
  refine ar_ldA rfl rfl ?_
  refine ar_get rfl (hs_eq (hs_ne (by decide) (hs_ne (by decide) (hs_eq (hs_ne (by decide) (hs_ne (by decide) (hs_eq (hs_eq (hs_eq (hs_eq (hr.at 69 (by decide) (by decide) rfl))))))))))) rfl ?_
  refine ar_un rfl ?_
  refine ar_ast rfl (hs_ne (by decide) (hs_ne (by decide) (hs_ne (by decide) (hs_ne (by decide) (hs_ne (by decide) (hs_ne (by decide) (hs_ne (by decide) (hs_ne (by decide) (hs_ne (by decide) (hs_ne (by decide) (hr.at 87 (by decide) (by decide) rfl))))))))))) (by decide) (Nat.le_of_ble_eq_true rfl) ?_
  refine ar_ldA rfl rfl ?_
  refine ar_get rfl (hs_ne (by decide) (hs_eq (hs_ne (by decide) (hs_ne (by decide) (hs_eq (hs_ne (by decide) (hs_ne (by decide) (hs_eq (hs_eq (hs_eq (hs_eq (hr.at 69 (by decide) (by decide) rfl)))))))))))) rfl ?_
  refine ar_push rfl ?_
  refine ar_dup2 rfl rfl rfl ?_
  refine ar_ald rfl (hs_ne (by decide) (hs_ne (by decide) (hs_ne (by decide) (hs_ne (by decide) (hs_ne (by decide) (hs_ne (by decide) (hs_eq (hs_ne (by decide) (hs_ne (by decide) (hs_ne (by decide) (hs_ne (by decide) (hr.at 85 (by decide) (by decide) rfl)))))))))))) (by decide) rfl ?_
  refine ar_push rfl ?_
  refine ar_bink (z := 1) rfl (by decide) ?_
  refine ar_ast rfl (hs_ne (by decide) (hs_ne (by decide) (hs_ne (by decide) (hs_ne (by decide) (hs_ne (by decide) (hs_ne (by decide) (hs_eq (hs_ne (by decide) (hs_ne (by decide) (hs_ne (by decide) (hs_ne (by decide) (hr.at 85 (by decide) (by decide) rfl)))))))))))) (by decide) (Nat.le_of_ble_eq_true rfl) ?_
  refine ar_ret0 rfl ?_
  show aRun _ (aCall Mt _) _ 54 (_, [], _, _, _)
  refine ar_ldA rfl rfl ?_
  refine ar_get rfl (hs_ne (by decide) (hs_ne (by decide) (hs_eq (hs_ne (by decide) (hs_ne (by decide) (hs_eq (hs_ne (by decide) (hs_ne (by decide) (hs_eq (hs_eq (hs_eq (hs_eq (hr.at 69 (by decide) (by decide) rfl))))))))))))) rfl ?_
  refine ar_if1t rfl (by decide) ?_
  refine ar_ldA rfl rfl ?_
  refine ar_get rfl (hs_ne (by decide) (hs_ne (by decide) (hs_eq (hs_ne (by decide) (hs_ne (by decide) (hs_eq (hs_ne (by decide) (hs_ne (by decide) (hs_eq (hs_eq (hs_eq (hs_eq (hr.at 69 (by decide) (by decide) rfl))))))))))))) rfl ?_
  refine ar_if1t rfl (by decide) ?_
  refine ar_ldA rfl rfl ?_
  refine ar_push rfl ?_
  refine ar_put rfl (hs_ne (by decide) (hs_ne (by decide) (hs_eq (hs_ne (by decide) (hs_ne (by decide) (hs_eq (hs_ne (by decide) (hs_ne (by decide) (hs_eq (hs_eq (hs_eq (hs_eq (hr.at 69 (by decide) (by decide) rfl))))))))))))) (Nat.le_of_ble_eq_true rfl) rfl ?_
  refine ar_ldA rfl rfl ?_
  refine ar_get rfl (hs_eq (hs_ne (by decide) (hs_ne (by decide) (hs_eq (hs_ne (by decide) (hs_ne (by decide) (hs_eq (hs_ne (by decide) (hs_ne (by decide) (hs_eq (hs_eq (hs_eq (hs_eq (hr.at 69 (by decide) (by decide) rfl)))))))))))))) rfl ?_
  refine ar_if1f rfl (by decide) ?_
  refine ar_push rfl ?_
  refine ar_ldA rfl rfl ?_
  refine ar_get rfl (hs_eq (hs_ne (by decide) (hs_ne (by decide) (hs_eq (hs_ne (by decide) (hs_ne (by decide) (hs_eq (hs_ne (by decide) (hs_ne (by decide) (hs_eq (hs_eq (hs_eq (hs_eq (hr.at 69 (by decide) (by decide) rfl)))))))))))))) rfl ?_
  refine ar_bink (z := (-100)) rfl (by decide) ?_
  refine ar_ret rfl rfl ?_
  exact ⟨rfl, hJ _ _ _⟩
set_option maxRecDepth 20000 in
set_option maxHeartbeats 4000000 in
theorem p1_7_12 (J : aH → Nat → Nat → Prop) (hJ : ∀ h a b, J h a b) (kc ks : Nat) (hkc : 1000 ≤ kc) (hks : 100000 ≤ ks) : aPairI 0 69 131 227 [.inl 12] J hF kc ks := by
  refine ⟨0, 0, _, by omega, by omega, rfl, ?_⟩
  refine ac_ink [some (.inr (.inr (some 0))), some (.inl 12), none, none] mt_131 (Nat.le_of_ble_eq_true rfl) rfl ?_
  refine ar_ldA rfl rfl ?_
  refine ar_ldI rfl rfl ?_
  refine ar_inl (mc := 0) (ms := 0) rfl (rcv_of rfl) (Nat.le_of_ble_eq_true rfl) (Nat.le_of_ble_eq_true rfl) (by omega) (by omega) ?_
  refine ac_ink [some (.inr (.inr (some 0))), some (.inl 12)] mt_166 (Nat.le_of_ble_eq_true rfl) rfl ?_
  refine ar_ldI rfl rfl ?_
  refine ar_if1t rfl (by decide) ?_
  refine ar_ldI rfl rfl ?_
  refine ar_push rfl ?_
  refine ar_if2t rfl (by decide) ?_
  refine ar_ldA rfl rfl ?_
  refine ar_get rfl rfl rfl ?_
  refine ar_ldI rfl rfl ?_
  refine ar_push rfl ?_
  refine ar_bink (z := 2) rfl (by decide) ?_
  refine ar_inl (mc := 0) (ms := 0) rfl (rcv_of rfl) (Nat.le_of_ble_eq_true rfl) (Nat.le_of_ble_eq_true rfl) (by omega) (by omega) ?_
  refine ac_ink [some (.inr (.inr (some 15))), some (.inl 2)] mt_7 (Nat.le_of_ble_eq_true rfl) rfl ?_
  refine ar_ldI rfl rfl ?_
  refine ar_inl (mc := 0) (ms := 0) rfl rfl (Nat.le_of_ble_eq_true rfl) (Nat.le_of_ble_eq_true rfl) (by omega) (by omega) ?_
  refine ac_ink [some (.inl 2)] mt_175 (Nat.le_of_ble_eq_true rfl) rfl ?_
  refine ar_ldI rfl rfl ?_
  refine ar_push rfl ?_
  refine ar_push rfl ?_
  refine ar_callv rfl rfl (Nat.le_of_ble_eq_true rfl) (Nat.le_of_ble_eq_true rfl) rfl (sp_within _ _ _ _ _) ?_
  refine ar_ret rfl (bi_ret _) ?_
  show aRun _ (aCall Mt _) _ 4 (_, [_], _, _, _)
  refine ar_if1f rfl (bi_e0f (by decide)) ?_
  refine ar_ldA rfl rfl ?_
  refine ar_get rfl rfl rfl ?_
  refine ar_ldI rfl rfl ?_
  refine ar_aldA rfl rfl (by decide) rfl ?_
  refine ar_go rfl ?_
  refine ar_ret rfl rfl ?_
  show aRun _ (aCall Mt _) _ 36 (_, [_], _, _, _)
  refine ar_ret rfl rfl ?_
  show aRun _ (aCall Mt _) _ 5 (_, [_], _, _, _)
  refine ar_svAk [some (.inr (.inr (some 0))), some (.inl 12), some (.inr (.inr (some 27))), none] rfl rfl ?_
  refine ar_ldA rfl rfl ?_
  refine ar_nulS rfl ?_
  refine ar_ldA rfl rfl ?_
  refine ar_get rfl rfl rfl ?_
  refine ar_ldA rfl rfl ?_
  refine ar_inl (mc := 0) (ms := 0) rfl (rcv_of rfl) (Nat.le_of_ble_eq_true rfl) (Nat.le_of_ble_eq_true rfl) (by omega) (by omega) ?_
  refine ac_ink [some (.inr (.inr (some 5))), some (.inr (.inr (some 27))), none] mt_94 (Nat.le_of_ble_eq_true rfl) rfl ?_
  refine ar_ldA rfl rfl ?_
  refine ar_push rfl ?_
  refine ar_put rfl rfl (Nat.le_of_ble_eq_true rfl) rfl ?_
  refine ar_ldA rfl rfl ?_
  refine ar_push rfl ?_
  refine ar_put rfl (hs_eq rfl) (Nat.le_of_ble_eq_true rfl) rfl ?_
  refine ar_ldA rfl rfl ?_
  refine ar_push rfl ?_
  refine ar_put rfl (hs_eq (hs_eq rfl)) (Nat.le_of_ble_eq_true rfl) rfl ?_
  refine ar_ldA rfl rfl ?_
  refine ar_inl (mc := 0) (ms := 0) rfl (rcv_of (hs_eq (hs_eq (hs_eq rfl)))) (Nat.le_of_ble_eq_true rfl) (Nat.le_of_ble_eq_true rfl) (by omega) (by omega) ?_
  refine ac_ink [some (.inr (.inr (some 5))), none] mt_100 (Nat.le_of_ble_eq_true rfl) rfl ?_
  refine ar_ldA rfl rfl ?_
  refine ar_push rfl ?_
  refine ar_inl (mc := 0) (ms := 0) rfl (rcv_of (hs_eq (hs_eq (hs_eq rfl)))) (Nat.le_of_ble_eq_true rfl) (Nat.le_of_ble_eq_true rfl) (by omega) (by omega) ?_
  refine ac_ink [some (.inr (.inr (some 5))), some (.inl 0), none] mt_101 (Nat.le_of_ble_eq_true rfl) rfl ?_
  refine ar_ldA rfl rfl ?_
  refine ar_ldI rfl rfl ?_
  refine ar_inl (mc := 0) (ms := 0) rfl (rcv_of (hs_eq (hs_eq (hs_eq rfl)))) (Nat.le_of_ble_eq_true rfl) (Nat.le_of_ble_eq_true rfl) (by omega) (by omega) ?_
  refine ac_ink [some (.inr (.inr (some 5))), some (.inl 0), none] mt_102 (Nat.le_of_ble_eq_true rfl) rfl ?_
  refine ar_ldA rfl rfl ?_
  refine ar_ldI rfl rfl ?_
  refine ar_inl (mc := 0) (ms := 0) rfl (rcv_of (hs_eq (hs_eq (hs_eq rfl)))) (Nat.le_of_ble_eq_true rfl) (Nat.le_of_ble_eq_true rfl) (by omega) (by omega) ?_
  refine ac_ink [some (.inr (.inr (some 5))), some (.inl 0), none] mt_103 (Nat.le_of_ble_eq_true rfl) rfl ?_
  refine ar_ldA rfl rfl ?_
  refine ar_ldI rfl rfl ?_
  refine ar_inl (mc := 0) (ms := 0) rfl (rcv_of (hs_eq (hs_eq (hs_eq rfl)))) (Nat.le_of_ble_eq_true rfl) (Nat.le_of_ble_eq_true rfl) (by omega) (by omega) ?_
  refine ac_ink [some (.inr (.inr (some 5))), some (.inl 0), none, none] mt_104 (Nat.le_of_ble_eq_true rfl) rfl ?_
  refine ar_ldA rfl rfl ?_
  refine ar_ldI rfl rfl ?_
  refine ar_inl (mc := 0) (ms := 0) rfl (rcv_of (hs_eq (hs_eq (hs_eq rfl)))) (Nat.le_of_ble_eq_true rfl) (Nat.le_of_ble_eq_true rfl) (by omega) (by omega) ?_
  refine ac_ink [some (.inr (.inr (some 5))), some (.inl 0), none, none] mt_105 (Nat.le_of_ble_eq_true rfl) rfl ?_
  refine ar_ldA rfl rfl ?_
  refine ar_ldI rfl rfl ?_
  refine ar_inl (mc := 0) (ms := 0) rfl (rcv_of (hs_eq (hs_eq (hs_eq rfl)))) (Nat.le_of_ble_eq_true rfl) (Nat.le_of_ble_eq_true rfl) (by omega) (by omega) ?_
  refine ac_ink [some (.inr (.inr (some 5))), some (.inl 0), none] mt_106 (Nat.le_of_ble_eq_true rfl) rfl ?_
  refine ar_ldA rfl rfl ?_
  refine ar_inl (mc := 0) (ms := 0) rfl (rcv_of (hs_eq (hs_eq (hs_eq rfl)))) (Nat.le_of_ble_eq_true rfl) (Nat.le_of_ble_eq_true rfl) (by omega) (by omega) ?_
  refine ac_ink [some (.inr (.inr (some 5)))] mt_95 (Nat.le_of_ble_eq_true rfl) rfl ?_
  refine ar_ldA rfl rfl ?_
  refine ar_get rfl (hs_eq (hs_eq (hs_eq rfl))) rfl ?_
  refine ar_if1f rfl (by decide) ?_
  refine ar_ldA rfl rfl ?_
  refine ar_get rfl (hs_eq (hs_eq (hs_eq rfl))) rfl ?_
  refine ar_ldA rfl rfl ?_
  refine ar_get rfl (hs_eq (hs_eq (hs_eq rfl))) rfl ?_
  refine ar_if2t rfl (by decide) ?_
  refine ar_push rfl ?_
  refine ar_ret rfl rfl ?_
  show aRun _ (aCall Mt _) _ 4 (_, [_], _, _, _)
  refine ar_svIk [some (.inr (.inr (some 5))), some (.inl 0), some (.inl (-1))] rfl rfl ?_
  refine ar_ldI rfl rfl ?_
  refine ar_push rfl ?_
  refine ar_push rfl ?_
  refine ar_callv rfl rfl (Nat.le_of_ble_eq_true rfl) (Nat.le_of_ble_eq_true rfl) rfl (sp_within _ _ _ _ _) ?_
  refine ar_if1t rfl (bi_e0t (by decide)) ?_
  refine ar_ldI rfl rfl ?_
  refine ar_push rfl ?_
  refine ar_push rfl ?_
  refine ar_callv rfl rfl (Nat.le_of_ble_eq_true rfl) (Nat.le_of_ble_eq_true rfl) rfl (sp_within _ _ _ _ _) ?_
  refine ar_if1t rfl (bi_e0t (by decide)) ?_
  refine ar_ldI rfl rfl ?_
  refine ar_push rfl ?_
  refine ar_if2t rfl (by decide) ?_
  refine ar_ldA rfl rfl ?_
  refine ar_push rfl ?_
  refine ar_inl (mc := 0) (ms := 0) rfl (rcv_of (hs_eq (hs_eq (hs_eq rfl)))) (Nat.le_of_ble_eq_true rfl) (Nat.le_of_ble_eq_true rfl) (by omega) (by omega) ?_
  refine ac_ink [some (.inr (.inr (some 5))), some (.inl 40)] mt_96 (Nat.le_of_ble_eq_true rfl) rfl ?_
  refine ar_ldA rfl rfl ?_
  refine ar_inl (mc := 0) (ms := 0) rfl (rcv_of (hs_eq (hs_eq (hs_eq rfl)))) (Nat.le_of_ble_eq_true rfl) (Nat.le_of_ble_eq_true rfl) (by omega) (by omega) ?_
  refine ac_ink [some (.inr (.inr (some 5)))] mt_95 (Nat.le_of_ble_eq_true rfl) rfl ?_
  refine ar_ldA rfl rfl ?_
  refine ar_get rfl (hs_eq (hs_eq (hs_eq rfl))) rfl ?_
  refine ar_if1f rfl (by decide) ?_
  refine ar_ldA rfl rfl ?_
  refine ar_get rfl (hs_eq (hs_eq (hs_eq rfl))) rfl ?_
  refine ar_ldA rfl rfl ?_
  refine ar_get rfl (hs_eq (hs_eq (hs_eq rfl))) rfl ?_
  refine ar_if2t rfl (by decide) ?_
  refine ar_push rfl ?_
  refine ar_ret rfl rfl ?_
  show aRun _ (aCall Mt _) _ 4 (_, [_], _, _, _)
  refine ar_ldI rfl rfl ?_
  refine ar_if2f rfl (by decide) ?_
  refine ar_push rfl ?_
  refine ar_ret rfl rfl ?_
  show aRun _ (aCall Mt _) _ 88 (_, [_], _, _, _)
  refine ar_if1t rfl (by decide) ?_
  refine ar_ldA rfl rfl ?_
  refine ar_push rfl ?_
  refine ar_inl (mc := 0) (ms := 0) rfl (rcv_of (hs_eq (hs_eq (hs_eq rfl)))) (Nat.le_of_ble_eq_true rfl) (Nat.le_of_ble_eq_true rfl) (by omega) (by omega) ?_
  refine ac_ink [some (.inr (.inr (some 5))), some (.inl 33)] mt_96 (Nat.le_of_ble_eq_true rfl) rfl ?_
  refine ar_ldA rfl rfl ?_
  refine ar_inl (mc := 0) (ms := 0) rfl (rcv_of (hs_eq (hs_eq (hs_eq rfl)))) (Nat.le_of_ble_eq_true rfl) (Nat.le_of_ble_eq_true rfl) (by omega) (by omega) ?_
  refine ac_ink [some (.inr (.inr (some 5)))] mt_95 (Nat.le_of_ble_eq_true rfl) rfl ?_
  refine ar_ldA rfl rfl ?_
  refine ar_get rfl (hs_eq (hs_eq (hs_eq rfl))) rfl ?_
  refine ar_if1f rfl (by decide) ?_
  refine ar_ldA rfl rfl ?_
  refine ar_get rfl (hs_eq (hs_eq (hs_eq rfl))) rfl ?_
  refine ar_ldA rfl rfl ?_
  refine ar_get rfl (hs_eq (hs_eq (hs_eq rfl))) rfl ?_
  refine ar_if2t rfl (by decide) ?_
  refine ar_push rfl ?_
  refine ar_ret rfl rfl ?_
  show aRun _ (aCall Mt _) _ 4 (_, [_], _, _, _)
  refine ar_ldI rfl rfl ?_
  refine ar_if2f rfl (by decide) ?_
  refine ar_push rfl ?_
  refine ar_ret rfl rfl ?_
  show aRun _ (aCall Mt _) _ 120 (_, [_], _, _, _)
  refine ar_if1t rfl (by decide) ?_
  refine ar_ldA rfl rfl ?_
  refine ar_push rfl ?_
  refine ar_inl (mc := 0) (ms := 0) rfl (rcv_of (hs_eq (hs_eq (hs_eq rfl)))) (Nat.le_of_ble_eq_true rfl) (Nat.le_of_ble_eq_true rfl) (by omega) (by omega) ?_
  refine ac_ink [some (.inr (.inr (some 5))), some (.inl 45)] mt_96 (Nat.le_of_ble_eq_true rfl) rfl ?_
  refine ar_ldA rfl rfl ?_
  refine ar_inl (mc := 0) (ms := 0) rfl (rcv_of (hs_eq (hs_eq (hs_eq rfl)))) (Nat.le_of_ble_eq_true rfl) (Nat.le_of_ble_eq_true rfl) (by omega) (by omega) ?_
  refine ac_ink [some (.inr (.inr (some 5)))] mt_95 (Nat.le_of_ble_eq_true rfl) rfl ?_
  refine ar_ldA rfl rfl ?_
  refine ar_get rfl (hs_eq (hs_eq (hs_eq rfl))) rfl ?_
  refine ar_if1f rfl (by decide) ?_
  refine ar_ldA rfl rfl ?_
  refine ar_get rfl (hs_eq (hs_eq (hs_eq rfl))) rfl ?_
  refine ar_ldA rfl rfl ?_
  refine ar_get rfl (hs_eq (hs_eq (hs_eq rfl))) rfl ?_
  refine ar_if2t rfl (by decide) ?_
  refine ar_push rfl ?_
  refine ar_ret rfl rfl ?_
  show aRun _ (aCall Mt _) _ 4 (_, [_], _, _, _)
  refine ar_ldI rfl rfl ?_
  refine ar_if2f rfl (by decide) ?_
  refine ar_push rfl ?_
  refine ar_ret rfl rfl ?_
  show aRun _ (aCall Mt _) _ 145 (_, [_], _, _, _)
  refine ar_if1t rfl (by decide) ?_
  refine ar_ldA rfl rfl ?_
  refine ar_inl (mc := 0) (ms := 0) rfl (rcv_of (hs_eq (hs_eq (hs_eq rfl)))) (Nat.le_of_ble_eq_true rfl) (Nat.le_of_ble_eq_true rfl) (by omega) (by omega) ?_
  refine ac_ink [some (.inr (.inr (some 5)))] mt_99 (Nat.le_of_ble_eq_true rfl) rfl ?_
  refine ar_ldA rfl rfl ?_
  refine ar_get rfl (hs_eq (hs_eq (hs_eq rfl))) rfl ?_
  refine ar_push rfl ?_
  refine ar_if2f rfl (by decide) ?_
  refine ar_ldA rfl rfl ?_
  refine ar_ldA rfl rfl ?_
  refine ar_get rfl (hs_eq (hs_eq (hs_eq rfl))) rfl ?_
  refine ar_put rfl (hs_eq (hs_eq (hs_eq rfl))) (Nat.le_of_ble_eq_true rfl) rfl ?_
  refine ar_ret0 rfl ?_
  show aRun _ (aCall Mt _) _ 168 (_, [], _, _, _)
  refine ar_ret0 rfl ?_
  show aRun _ (aCall Mt _) _ 5 (_, [], _, _, _)
  refine ar_push rfl ?_
  refine ar_svIk [some (.inr (.inr (some 5))), some (.inl 0), some (.inl 0), none] rfl rfl ?_
  refine ar_ldI rfl rfl ?_
  refine ar_ldA rfl rfl ?_
  refine ar_get rfl (hs_eq (hs_eq (hs_eq (hs_eq rfl)))) rfl ?_
  refine ar_if2t rfl (by decide) ?_
  refine ar_ret0 rfl ?_
  show aRun _ (aCall Mt _) _ 5 (_, [], _, _, _)
  refine ar_push rfl ?_
  refine ar_svIk [some (.inr (.inr (some 5))), some (.inl 0), some (.inl 0), none] rfl rfl ?_
  refine ar_ldI rfl rfl ?_
  refine ar_ldA rfl rfl ?_
  refine ar_get rfl (hs_eq (hs_eq (hs_eq (hs_eq rfl)))) rfl ?_
  refine ar_if2t rfl (by decide) ?_
  refine ar_ret0 rfl ?_
  show aRun _ (aCall Mt _) _ 5 (_, [], _, _, _)
  refine ar_ldA rfl rfl ?_
  refine ar_push rfl ?_
  refine ar_inl (mc := 0) (ms := 0) rfl (rcv_of (hs_eq (hs_eq (hs_eq (hs_eq rfl))))) (Nat.le_of_ble_eq_true rfl) (Nat.le_of_ble_eq_true rfl) (by omega) (by omega) ?_
  refine ac_ink [some (.inr (.inr (some 5))), some (.inl 60)] mt_97 (Nat.le_of_ble_eq_true rfl) rfl ?_
  refine ar_ldA rfl rfl ?_
  refine ar_get rfl (hs_eq (hs_eq (hs_eq (hs_eq rfl)))) rfl ?_
  refine ar_push rfl ?_
  refine ar_if2t rfl (by decide) ?_
  refine ar_push rfl ?_
  refine ar_ret rfl rfl ?_
  show aRun _ (aCall Mt _) _ 11 (_, [_], _, _, _)
  refine ar_if1t rfl (by decide) ?_
  refine ar_ldA rfl rfl ?_
  refine ar_push rfl ?_
  refine ar_inl (mc := 0) (ms := 0) rfl (rcv_of (hs_eq (hs_eq (hs_eq (hs_eq rfl))))) (Nat.le_of_ble_eq_true rfl) (Nat.le_of_ble_eq_true rfl) (by omega) (by omega) ?_
  refine ac_ink [some (.inr (.inr (some 5))), some (.inl 61)] mt_97 (Nat.le_of_ble_eq_true rfl) rfl ?_
  refine ar_ldA rfl rfl ?_
  refine ar_get rfl (hs_eq (hs_eq (hs_eq (hs_eq rfl)))) rfl ?_
  refine ar_push rfl ?_
  refine ar_if2t rfl (by decide) ?_
  refine ar_push rfl ?_
  refine ar_ret rfl rfl ?_
  show aRun _ (aCall Mt _) _ 25 (_, [_], _, _, _)
  refine ar_if1t rfl (by decide) ?_
  refine ar_ldA rfl rfl ?_
  refine ar_push rfl ?_
  refine ar_inl (mc := 0) (ms := 0) rfl (rcv_of (hs_eq (hs_eq (hs_eq (hs_eq rfl))))) (Nat.le_of_ble_eq_true rfl) (Nat.le_of_ble_eq_true rfl) (by omega) (by omega) ?_
  refine ac_ink [some (.inr (.inr (some 5))), some (.inl 62)] mt_97 (Nat.le_of_ble_eq_true rfl) rfl ?_
  refine ar_ldA rfl rfl ?_
  refine ar_get rfl (hs_eq (hs_eq (hs_eq (hs_eq rfl)))) rfl ?_
  refine ar_push rfl ?_
  refine ar_if2t rfl (by decide) ?_
  refine ar_push rfl ?_
  refine ar_ret rfl rfl ?_
  show aRun _ (aCall Mt _) _ 39 (_, [_], _, _, _)
  refine ar_if1t rfl (by decide) ?_
  refine ar_push rfl ?_
  refine ar_svIk [some (.inr (.inr (some 5))), some (.inl 0), some (.inl 15)] rfl rfl ?_
  refine ar_ldI rfl rfl ?_
  refine ar_push rfl ?_
  refine ar_if2f rfl (by decide) ?_
  refine ar_ret0 rfl ?_
  show aRun _ (aCall Mt _) _ 5 (_, [], _, _, _)
  refine ar_push rfl ?_
  refine ar_svIk [some (.inr (.inr (some 5))), some (.inl 0), some (.inl 0)] rfl rfl ?_
  refine ar_ldI rfl rfl ?_
  refine ar_ldA rfl rfl ?_
  refine ar_get rfl (hs_eq (hs_eq (hs_eq (hs_eq rfl)))) rfl ?_
  refine ar_if2t rfl (by decide) ?_
  refine ar_ret0 rfl ?_
  show aRun _ (aCall Mt _) _ 5 (_, [], _, _, _)
  refine ar_push rfl ?_
  refine ar_svIk [some (.inr (.inr (some 5))), some (.inl 0), some (.inl 0)] rfl rfl ?_
  refine ar_ldI rfl rfl ?_
  refine ar_ldA rfl rfl ?_
  refine ar_get rfl (hs_eq (hs_eq (hs_eq (hs_eq rfl)))) rfl ?_
  refine ar_if2t rfl (by decide) ?_
  refine ar_ret0 rfl ?_
  show aRun _ (aCall Mt _) _ 5 (_, [], _, _, _)
  refine ar_ldA rfl rfl ?_
  refine ar_push rfl ?_
  refine ar_inl (mc := 0) (ms := 0) rfl (rcv_of (hs_eq (hs_eq (hs_eq (hs_eq rfl))))) (Nat.le_of_ble_eq_true rfl) (Nat.le_of_ble_eq_true rfl) (by omega) (by omega) ?_
  refine ac_ink [some (.inr (.inr (some 5))), some (.inl 63)] mt_97 (Nat.le_of_ble_eq_true rfl) rfl ?_
  refine ar_ldA rfl rfl ?_
  refine ar_get rfl (hs_eq (hs_eq (hs_eq (hs_eq rfl)))) rfl ?_
  refine ar_push rfl ?_
  refine ar_if2t rfl (by decide) ?_
  refine ar_push rfl ?_
  refine ar_ret rfl rfl ?_
  show aRun _ (aCall Mt _) _ 11 (_, [_], _, _, _)
  refine ar_if1f rfl (by decide) ?_
  refine ar_ldA rfl rfl ?_
  refine ar_push rfl ?_
  refine ar_push rfl ?_
  refine ar_inl (mc := 0) (ms := 0) rfl (rcv_of (hs_eq (hs_eq (hs_eq (hs_eq rfl))))) (Nat.le_of_ble_eq_true rfl) (Nat.le_of_ble_eq_true rfl) (by omega) (by omega) ?_
  refine ac_ink [some (.inr (.inr (some 5))), some (.inl 15), some (.inl 0)] mt_98 (Nat.le_of_ble_eq_true rfl) rfl ?_
  refine ar_ldA rfl rfl ?_
  refine ar_get rfl (hs_eq (hs_eq (hs_eq (hs_eq rfl)))) rfl ?_
  refine ar_ldA rfl rfl ?_
  refine ar_get rfl (hs_eq (hs_eq (hs_eq (hs_eq rfl)))) rfl ?_
  refine ar_len rfl (hs_ne (by decide) (hs_ne (by decide) (hs_ne (by decide) (hs_ne (by decide) rfl)))) ?_
  refine ar_if2t rfl (by decide) ?_
  refine ar_ldA rfl rfl ?_
  refine ar_get rfl (hs_eq (hs_eq (hs_eq (hs_eq rfl)))) rfl ?_
  refine ar_ldA rfl rfl ?_
  refine ar_get rfl (hs_eq (hs_eq (hs_eq (hs_eq rfl)))) rfl ?_
  refine ar_ldI rfl rfl ?_
  refine ar_ldI rfl rfl ?_
  refine ar_inl (mc := 0) (ms := 0) rfl rfl (Nat.le_of_ble_eq_true rfl) (Nat.le_of_ble_eq_true rfl) (by omega) (by omega) ?_
  refine ac_ink [some (.inl 15), some (.inl 0)] mt_111 (Nat.le_of_ble_eq_true rfl) rfl ?_
  refine ar_ldI rfl rfl ?_
  refine ar_push rfl ?_
  refine ar_bink (z := 0) rfl (by decide) ?_
  refine ar_ldI rfl rfl ?_
  refine ar_bink (z := 15) rfl (by decide) ?_
  refine ar_ret rfl rfl ?_
  show aRun _ (aCall Mt _) _ 26 (_, [_, _, _], _, _, _)
  refine ar_ast rfl (hs_ne (by decide) (hs_ne (by decide) (hs_ne (by decide) (hs_ne (by decide) rfl)))) (by decide) (Nat.le_of_ble_eq_true rfl) ?_
  refine ar_ldA rfl rfl ?_
  refine ar_dup rfl rfl ?_
  refine ar_get rfl (hs_ne (by decide) (hs_eq (hs_eq (hs_eq (hs_eq rfl))))) rfl ?_
  refine ar_push rfl ?_
  refine ar_bink (z := 1) rfl (by decide) ?_
  refine ar_put rfl (hs_ne (by decide) (hs_eq (hs_eq (hs_eq (hs_eq rfl))))) (Nat.le_of_ble_eq_true rfl) rfl ?_
  refine ar_ret0 rfl ?_
  show aRun _ (aCall Mt _) _ 21 (_, [], _, _, _)
  refine ar_ret0 rfl ?_
  show aRun _ (aCall Mt _) _ 19 (_, [], _, _, _)
  refine ar_push rfl ?_
  refine ar_svIk [some (.inr (.inr (some 5))), some (.inr (.inr (some 27))), some (.inl 0)] rfl rfl ?_
  refine ar_ldI rfl rfl ?_
  refine ar_ldA rfl rfl ?_
  refine ar_get rfl (hs_eq (hs_ne (by decide) (hs_eq (hs_eq (hs_eq (hs_eq rfl)))))) rfl ?_
  refine ar_if2t rfl (by decide) ?_
  refine ar_ldA rfl rfl ?_
  refine ar_get rfl (hs_eq (hs_ne (by decide) (hs_eq (hs_eq (hs_eq (hs_eq rfl)))))) rfl ?_
  refine ar_push rfl ?_
  refine ar_if2t rfl (by decide) ?_
  refine ar_ldA rfl rfl ?_
  refine ar_get rfl (hs_eq (hs_ne (by decide) (hs_eq (hs_eq (hs_eq (hs_eq rfl)))))) rfl ?_
  refine ar_push rfl ?_
  refine ar_if2t rfl (by decide) ?_
  refine ar_ldA rfl rfl ?_
  refine ar_push rfl ?_
  refine ar_put rfl (hs_eq (hs_ne (by decide) (hs_eq (hs_eq (hs_eq (hs_eq rfl)))))) (Nat.le_of_ble_eq_true rfl) rfl ?_
  refine ar_ldA rfl rfl ?_
  refine ar_get rfl (hs_eq (hs_eq (hs_ne (by decide) (hs_eq (hs_eq (hs_eq (hs_eq rfl))))))) rfl ?_
  refine ar_ret rfl rfl ?_
  show aRun _ (aCall Mt _) _ 20 (_, [_], _, _, _)
  refine ar_svIk [some (.inr (.inr (some 0))), some (.inl 12), some (.inr (.inr (some 27))), some (.inl 0)] rfl rfl ?_
  refine ar_ldI rfl rfl ?_
  refine ar_push rfl ?_
  refine ar_if2f rfl (by decide) ?_
  refine ar_push rfl ?_
  refine ar_ldI rfl rfl ?_
  refine ar_bink (z := (-100)) rfl (by decide) ?_
  refine ar_ret rfl rfl ?_
  refine ⟨_, 0, 0, _, rfl, Nat.zero_le _, Nat.zero_le _, (hs_ne (by decide) (hs_ne (by decide) (hs_ne (by decide) (hs_ne (by decide) (hs_ne (by decide) (hs_ne (by decide) (hs_ne (by decide) rfl))))))), ?_⟩
  refine rgen (((((((rFr_F.sets (by decide)).sets (by decide)).sets (by decide)).sets (by decide)).sets (by decide)).sets (by decide)).sets (by decide)) (fun g hr => ?_)
  refine ac_ink [some (.inr (.inr (some 69))), some (.inl 12), none, none] mt_227 (Nat.le_of_ble_eq_true rfl) rfl ?_
  refine ar_ldI rfl rfl ?_
  refine ar_push rfl ?_
  refine ar_push rfl ?_
  refine ar_callv rfl rfl (Nat.le_of_ble_eq_true rfl) (Nat.le_of_ble_eq_true rfl) rfl (sp_in _ _ _ _ _) ?_
  refine ar_if1f rfl (bi_n0f (by decide)) ?_
  refine ar_ldI rfl rfl ?_
  refine ar_push rfl ?_
  refine ar_push rfl ?_
  refine ar_callv rfl rfl (Nat.le_of_ble_eq_true rfl) (Nat.le_of_ble_eq_true rfl) rfl (sp_in _ _ _ _ _) ?_
  refine ar_if1t rfl (bi_n0t (by decide)) ?_
  refine ar_ldA rfl rfl ?_
  refine ar_push rfl ?_
  refine ar_put rfl (hr.at 69 (by decide) (by decide) rfl) (Nat.le_of_ble_eq_true rfl) rfl ?_
  refine ar_ldA rfl rfl ?_
  refine ar_push rfl ?_
  refine ar_put rfl (hs_eq (hr.at 69 (by decide) (by decide) rfl)) (Nat.le_of_ble_eq_true rfl) rfl ?_
  refine ar_ldA rfl rfl ?_
  refine ar_push rfl ?_
  refine ar_put rfl (hs_eq (hs_eq (hr.at 69 (by decide) (by decide) rfl))) (Nat.le_of_ble_eq_true rfl) rfl ?_
  refine ar_ldA rfl rfl ?_
  refine ar_push rfl ?_
  refine ar_put rfl (hs_eq (hs_eq (hs_eq (hr.at 69 (by decide) (by decide) rfl)))) (Nat.le_of_ble_eq_true rfl) rfl ?_
  refine ar_ldA rfl rfl ?_
  refine ar_get rfl (hs_eq (hs_eq (hs_eq (hs_eq (hr.at 69 (by decide) (by decide) rfl))))) rfl ?_
  refine ar_push rfl ?_
  refine ar_push rfl ?_
  refine ar_ast rfl (hs_ne (by decide) (hs_ne (by decide) (hs_ne (by decide) (hs_ne (by decide) (hr.at 85 (by decide) (by decide) rfl))))) (by decide) (Nat.le_of_ble_eq_true rfl) ?_
  refine ar_ldA rfl rfl ?_
  refine ar_inl (mc := 0) (ms := 0) rfl (rcv_of (hs_ne (by decide) (hs_eq (hs_eq (hs_eq (hs_eq (hr.at 69 (by decide) (by decide) rfl))))))) (Nat.le_of_ble_eq_true rfl) (Nat.le_of_ble_eq_true rfl) (by omega) (by omega) ?_
  refine ac_ink [some (.inr (.inr (some 69))), none] mt_225 (Nat.le_of_ble_eq_true rfl) rfl ?_
  refine ar_push rfl ?_
  refine ar_ldA rfl rfl ?_
  refine ar_get rfl (hs_ne (by decide) (hs_eq (hs_eq (hs_eq (hs_eq (hr.at 69 (by decide) (by decide) rfl)))))) rfl ?_
  refine ar_push rfl ?_
  refine ar_ald rfl (hs_eq (hs_ne (by decide) (hs_ne (by decide) (hs_ne (by decide) (hs_ne (by decide) (hr.at 85 (by decide) (by decide) rfl)))))) (by decide) rfl ?_
  refine ar_bink (z := 671) rfl (by decide) ?_
  refine ar_svIk [some (.inr (.inr (some 69))), some (.inl 671)] rfl rfl ?_
  refine ar_ldA rfl rfl ?_
  refine ar_get rfl (hs_ne (by decide) (hs_eq (hs_eq (hs_eq (hs_eq (hr.at 69 (by decide) (by decide) rfl)))))) rfl ?_
  refine ar_ldI rfl rfl ?_
  refine ar_ldA rfl rfl ?_
  refine ar_get rfl (hs_ne (by decide) (hs_eq (hs_eq (hs_eq (hs_eq (hr.at 69 (by decide) (by decide) rfl)))))) rfl ?_
  refine ar_un rfl ?_
  refine ar_ast rfl (hs_ne (by decide) (hs_ne (by decide) (hs_ne (by decide) (hs_ne (by decide) (hs_ne (by decide) (hr.at 86 (by decide) (by decide) rfl)))))) (by decide) (Nat.le_of_ble_eq_true rfl) ?_
  refine ar_ldA rfl rfl ?_
  refine ar_inl (mc := 0) (ms := 0) rfl (rcv_of (hs_ne (by decide) (hs_ne (by decide) (hs_eq (hs_eq (hs_eq (hs_eq (hr.at 69 (by decide) (by decide) rfl)))))))) (Nat.le_of_ble_eq_true rfl) (Nat.le_of_ble_eq_true rfl) (by omega) (by omega) ?_
  refine ac_ink [some (.inr (.inr (some 69)))] mt_224 (Nat.le_of_ble_eq_true rfl) rfl ?_
  refine ar_ldA rfl rfl ?_
  refine ar_inl (mc := 0) (ms := 0) rfl (rcv_of (hs_ne (by decide) (hs_ne (by decide) (hs_eq (hs_eq (hs_eq (hs_eq (hr.at 69 (by decide) (by decide) rfl)))))))) (Nat.le_of_ble_eq_true rfl) (Nat.le_of_ble_eq_true rfl) (by omega) (by omega) ?_
  refine ac_ink [some (.inr (.inr (some 69)))] mt_223 (Nat.le_of_ble_eq_true rfl) rfl ?_
  refine ar_ldA rfl rfl ?_
  refine ar_inl (mc := 0) (ms := 0) rfl (rcv_of (hs_ne (by decide) (hs_ne (by decide) (hs_eq (hs_eq (hs_eq (hs_eq (hr.at 69 (by decide) (by decide) rfl)))))))) (Nat.le_of_ble_eq_true rfl) (Nat.le_of_ble_eq_true rfl) (by omega) (by omega) ?_
  refine ac_ink [some (.inr (.inr (some 69))), none] mt_222 (Nat.le_of_ble_eq_true rfl) rfl ?_
  refine ar_ldA rfl rfl ?_
  refine ar_inl (mc := 0) (ms := 0) rfl (rcv_of (hs_ne (by decide) (hs_ne (by decide) (hs_eq (hs_eq (hs_eq (hs_eq (hr.at 69 (by decide) (by decide) rfl)))))))) (Nat.le_of_ble_eq_true rfl) (Nat.le_of_ble_eq_true rfl) (by omega) (by omega) ?_
  refine ac_ink [some (.inr (.inr (some 69))), none] mt_221 (Nat.le_of_ble_eq_true rfl) rfl ?_
  refine ar_ldA rfl rfl ?_
  refine ar_inl (mc := 0) (ms := 0) rfl (rcv_of (hs_ne (by decide) (hs_ne (by decide) (hs_eq (hs_eq (hs_eq (hs_eq (hr.at 69 (by decide) (by decide) rfl)))))))) (Nat.le_of_ble_eq_true rfl) (Nat.le_of_ble_eq_true rfl) (by omega) (by omega) ?_
  refine ac_ink [some (.inr (.inr (some 69))), none] mt_220 (Nat.le_of_ble_eq_true rfl) rfl ?_
  refine ar_ldA rfl rfl ?_
  refine ar_inl (mc := 0) (ms := 0) rfl (rcv_of (hs_ne (by decide) (hs_ne (by decide) (hs_eq (hs_eq (hs_eq (hs_eq (hr.at 69 (by decide) (by decide) rfl)))))))) (Nat.le_of_ble_eq_true rfl) (Nat.le_of_ble_eq_true rfl) (by omega) (by omega) ?_
  refine ac_ink [some (.inr (.inr (some 69))), none] mt_219 (Nat.le_of_ble_eq_true rfl) rfl ?_
  refine ar_ldA rfl rfl ?_
  refine ar_inl (mc := 0) (ms := 0) rfl (rcv_of (hs_ne (by decide) (hs_ne (by decide) (hs_eq (hs_eq (hs_eq (hs_eq (hr.at 69 (by decide) (by decide) rfl)))))))) (Nat.le_of_ble_eq_true rfl) (Nat.le_of_ble_eq_true rfl) (by omega) (by omega) ?_
  refine ac_ink [some (.inr (.inr (some 69)))] mt_213 (Nat.le_of_ble_eq_true rfl) rfl ?_
  refine ar_ldA rfl rfl ?_
  refine ar_get rfl (hs_ne (by decide) (hs_ne (by decide) (hs_eq (hs_eq (hs_eq (hs_eq (hr.at 69 (by decide) (by decide) rfl))))))) rfl ?_
  refine ar_ldA rfl rfl ?_
  refine ar_get rfl (hs_ne (by decide) (hs_ne (by decide) (hs_eq (hs_eq (hs_eq (hs_eq (hr.at 69 (by decide) (by decide) rfl))))))) rfl ?_
  refine ar_if2t rfl (by decide) ?_
  refine ar_push rfl ?_
  refine ar_ret rfl rfl ?_
  show aRun _ (aCall Mt _) _ 4 (_, [_], _, _, _)
  refine ar_svIk [some (.inr (.inr (some 69))), some (.inl (-1))] rfl rfl ?_
  refine ar_ldI rfl rfl ?_
  refine ar_inl (mc := 0) (ms := 0) rfl rfl (Nat.le_of_ble_eq_true rfl) (Nat.le_of_ble_eq_true rfl) (by omega) (by omega) ?_
  refine ac_ink [some (.inl (-1))] mt_216 (Nat.le_of_ble_eq_true rfl) rfl ?_
  refine ar_ldI rfl rfl ?_
  refine ar_tabO rfl (by decide) ?_
  refine ar_push rfl ?_
  refine ar_ret rfl rfl ?_
  show aRun _ (aCall Mt _) _ 9 (_, [_], _, _, _)
  refine ar_if1t rfl (by decide) ?_
  refine ar_ldI rfl rfl ?_
  refine ar_push rfl ?_
  refine ar_if2f rfl (by decide) ?_
  refine ar_ldI rfl rfl ?_
  refine ar_push rfl ?_
  refine ar_if2t rfl (by decide) ?_
  refine ar_ldI rfl rfl ?_
  refine ar_push rfl ?_
  refine ar_if2t rfl (by decide) ?_
  refine ar_ldA rfl rfl ?_
  refine ar_inl (mc := 0) (ms := 0) rfl (rcv_of (hs_ne (by decide) (hs_ne (by decide) (hs_eq (hs_eq (hs_eq (hs_eq (hr.at 69 (by decide) (by decide) rfl)))))))) (Nat.le_of_ble_eq_true rfl) (Nat.le_of_ble_eq_true rfl) (by omega) (by omega) ?_
  refine ac_ink [some (.inr (.inr (some 69))), none, none] mt_218 (Nat.le_of_ble_eq_true rfl) rfl ?_
  refine ar_push rfl ?_
  refine ar_svIk [some (.inr (.inr (some 69))), some (.inl 0), none] rfl rfl ?_
  refine ar_push rfl ?_
  refine ar_svIk [some (.inr (.inr (some 69))), some (.inl 0), some (.inl 0)] rfl rfl ?_
  refine ar_ldI rfl rfl ?_
  refine ar_push rfl ?_
  refine ar_if2f rfl (by decide) ?_
  refine ar_ldA rfl rfl ?_
  refine ar_inl (mc := 0) (ms := 0) rfl (rcv_of (hs_ne (by decide) (hs_ne (by decide) (hs_eq (hs_eq (hs_eq (hs_eq (hr.at 69 (by decide) (by decide) rfl)))))))) (Nat.le_of_ble_eq_true rfl) (Nat.le_of_ble_eq_true rfl) (by omega) (by omega) ?_
  refine ac_ink [some (.inr (.inr (some 69)))] mt_213 (Nat.le_of_ble_eq_true rfl) rfl ?_
  refine ar_ldA rfl rfl ?_
  refine ar_get rfl (hs_ne (by decide) (hs_ne (by decide) (hs_eq (hs_eq (hs_eq (hs_eq (hr.at 69 (by decide) (by decide) rfl))))))) rfl ?_
  refine ar_ldA rfl rfl ?_
  refine ar_get rfl (hs_ne (by decide) (hs_ne (by decide) (hs_eq (hs_eq (hs_eq (hs_eq (hr.at 69 (by decide) (by decide) rfl))))))) rfl ?_
  refine ar_if2t rfl (by decide) ?_
  refine ar_push rfl ?_
  refine ar_ret rfl rfl ?_
  show aRun _ (aCall Mt _) _ 14 (_, [_], _, _, _)
  refine ar_push rfl ?_
  refine ar_push rfl ?_
  refine ar_callv rfl rfl (Nat.le_of_ble_eq_true rfl) (Nat.le_of_ble_eq_true rfl) rfl (sp_in _ _ _ _ _) ?_
  refine ar_if1t rfl (bi_e0t (by decide)) ?_
  refine ar_ldI rfl rfl ?_
  refine ar_if1t rfl (by decide) ?_
  refine ar_ldA rfl rfl ?_
  refine ar_inl (mc := 0) (ms := 0) rfl (rcv_of (hs_ne (by decide) (hs_ne (by decide) (hs_eq (hs_eq (hs_eq (hs_eq (hr.at 69 (by decide) (by decide) rfl)))))))) (Nat.le_of_ble_eq_true rfl) (Nat.le_of_ble_eq_true rfl) (by omega) (by omega) ?_
  refine ac_ink [some (.inr (.inr (some 69)))] mt_214 (Nat.le_of_ble_eq_true rfl) rfl ?_
  refine ar_ldA rfl rfl ?_
  refine ar_get rfl (hs_ne (by decide) (hs_ne (by decide) (hs_eq (hs_eq (hs_eq (hs_eq (hr.at 69 (by decide) (by decide) rfl))))))) rfl ?_
  refine ar_if1f rfl (by decide) ?_
  refine ar_ldA rfl rfl ?_
  refine ar_ldA rfl rfl ?_
  refine ar_get rfl (hs_ne (by decide) (hs_ne (by decide) (hs_eq (hs_eq (hs_eq (hs_eq (hr.at 69 (by decide) (by decide) rfl))))))) rfl ?_
  refine ar_put rfl (hs_ne (by decide) (hs_ne (by decide) (hs_eq (hs_eq (hs_eq (hs_eq (hr.at 69 (by decide) (by decide) rfl))))))) (Nat.le_of_ble_eq_true rfl) rfl ?_
  refine ar_ret0 rfl ?_
  show aRun _ (aCall Mt _) _ 75 (_, [], _, _, _)
  refine ar_ldA rfl rfl ?_
  refine ar_push rfl ?_
  refine ar_ldI rfl rfl ?_
  refine ar_inl (mc := 0) (ms := 0) rfl (rcv_of (hs_eq (hs_ne (by decide) (hs_ne (by decide) (hs_eq (hs_eq (hs_eq (hs_eq (hr.at 69 (by decide) (by decide) rfl))))))))) (Nat.le_of_ble_eq_true rfl) (Nat.le_of_ble_eq_true rfl) (by omega) (by omega) ?_
  refine ac_ink [some (.inr (.inr (some 69))), some (.inl 1), some (.inl 0)] mt_215 (Nat.le_of_ble_eq_true rfl) rfl ?_
  refine ar_ldA rfl rfl ?_
  refine ar_get rfl (hs_eq (hs_ne (by decide) (hs_ne (by decide) (hs_eq (hs_eq (hs_eq (hs_eq (hr.at 69 (by decide) (by decide) rfl)))))))) rfl ?_
  refine ar_push rfl ?_
  refine ar_ldA rfl rfl ?_
  refine ar_get rfl (hs_eq (hs_ne (by decide) (hs_ne (by decide) (hs_eq (hs_eq (hs_eq (hs_eq (hr.at 69 (by decide) (by decide) rfl)))))))) rfl ?_
  refine ar_bink (z := 1430) rfl (by decide) ?_
  refine ar_ldI rfl rfl ?_
  refine ar_un rfl ?_
  refine ar_ast rfl (hs_ne (by decide) (hs_ne (by decide) (hs_ne (by decide) (hs_ne (by decide) (hs_ne (by decide) (hs_ne (by decide) (hs_ne (by decide) (hr.at 83 (by decide) (by decide) rfl)))))))) (by decide) (Nat.le_of_ble_eq_true rfl) ?_
  refine ar_ldA rfl rfl ?_
  refine ar_get rfl (hs_ne (by decide) (hs_eq (hs_ne (by decide) (hs_ne (by decide) (hs_eq (hs_eq (hs_eq (hs_eq (hr.at 69 (by decide) (by decide) rfl))))))))) rfl ?_
  refine ar_push rfl ?_
  refine ar_ldA rfl rfl ?_
  refine ar_get rfl (hs_ne (by decide) (hs_eq (hs_ne (by decide) (hs_ne (by decide) (hs_eq (hs_eq (hs_eq (hs_eq (hr.at 69 (by decide) (by decide) rfl))))))))) rfl ?_
  refine ar_bink (z := 1430) rfl (by decide) ?_
  refine ar_ldI rfl rfl ?_
  refine ar_ast rfl (hs_ne (by decide) (hs_ne (by decide) (hs_ne (by decide) (hs_ne (by decide) (hs_ne (by decide) (hs_ne (by decide) (hs_ne (by decide) (hs_ne (by decide) (hr.at 84 (by decide) (by decide) rfl))))))))) (by decide) (Nat.le_of_ble_eq_true rfl) ?_
  refine ar_ldA rfl rfl ?_
  refine ar_dup rfl rfl ?_
  refine ar_get rfl (hs_ne (by decide) (hs_ne (by decide) (hs_eq (hs_ne (by decide) (hs_ne (by decide) (hs_eq (hs_eq (hs_eq (hs_eq (hr.at 69 (by decide) (by decide) rfl)))))))))) rfl ?_
  refine ar_push rfl ?_
  refine ar_bink (z := 1) rfl (by decide) ?_
  refine ar_put rfl (hs_ne (by decide) (hs_ne (by decide) (hs_eq (hs_ne (by decide) (hs_ne (by decide) (hs_eq (hs_eq (hs_eq (hs_eq (hr.at 69 (by decide) (by decide) rfl)))))))))) (Nat.le_of_ble_eq_true rfl) rfl ?_
  refine ar_ret0 rfl ?_
  show aRun _ (aCall Mt _) _ 81 (_, [], _, _, _)
  refine ar_ret0 rfl ?_
  show aRun _ (aCall Mt _) _ 154 (_, [], _, _, _)
  refine ar_ret0 rfl ?_
  show aRun _ (aCall Mt _) _ 4 (_, [], _, _, _)
  refine ar_ldA rfl rfl ?_
  refine ar_get rfl (hs_eq (hs_ne (by decide) (hs_ne (by decide) (hs_eq (hs_ne (by decide) (hs_ne (by decide) (hs_eq (hs_eq (hs_eq (hs_eq (hr.at 69 (by decide) (by decide) rfl))))))))))) rfl ?_
  refine ar_if1t rfl (by decide) ?_
  refine ar_ret0 rfl ?_
  show aRun _ (aCall Mt _) _ 4 (_, [], _, _, _)
  refine ar_ldA rfl rfl ?_
  refine ar_get rfl (hs_eq (hs_ne (by decide) (hs_ne (by decide) (hs_eq (hs_ne (by decide) (hs_ne (by decide) (hs_eq (hs_eq (hs_eq (hs_eq (hr.at 69 (by decide) (by decide) rfl))))))))))) rfl ?_
  refine ar_if1t rfl (by decide) ?_
  refine ar_ret0 rfl ?_
  show aRun _ (aCall Mt _) _ 4 (_, [], _, _, _)
  refine ar_ldA rfl rfl ?_
  refine ar_inl (mc := 0) (ms := 0) rfl (rcv_of (hs_eq (hs_ne (by decide) (hs_ne (by decide) (hs_eq (hs_ne (by decide) (hs_ne (by decide) (hs_eq (hs_eq (hs_eq (hs_eq (hr.at 69 (by decide) (by decide) rfl)))))))))))) (Nat.le_of_ble_eq_true rfl) (Nat.le_of_ble_eq_true rfl) (by omega) (by omega) ?_
  refine ac_ink [some (.inr (.inr (some 69)))] mt_213 (Nat.le_of_ble_eq_true rfl) rfl ?_
  refine ar_ldA rfl rfl ?_
  refine ar_get rfl (hs_eq (hs_ne (by decide) (hs_ne (by decide) (hs_eq (hs_ne (by decide) (hs_ne (by decide) (hs_eq (hs_eq (hs_eq (hs_eq (hr.at 69 (by decide) (by decide) rfl))))))))))) rfl ?_
  refine ar_ldA rfl rfl ?_
  refine ar_get rfl (hs_eq (hs_ne (by decide) (hs_ne (by decide) (hs_eq (hs_ne (by decide) (hs_ne (by decide) (hs_eq (hs_eq (hs_eq (hs_eq (hr.at 69 (by decide) (by decide) rfl))))))))))) rfl ?_
  refine ar_if2t rfl (by decide) ?_
  refine ar_push rfl ?_
  refine ar_ret rfl rfl ?_
  show aRun _ (aCall Mt _) _ 8 (_, [_], _, _, _)
  refine ar_svIk [some (.inr (.inr (some 69))), some (.inl (-1))] rfl rfl ?_
  refine ar_ldA rfl rfl ?_
  refine ar_get rfl (hs_eq (hs_ne (by decide) (hs_ne (by decide) (hs_eq (hs_ne (by decide) (hs_ne (by decide) (hs_eq (hs_eq (hs_eq (hs_eq (hr.at 69 (by decide) (by decide) rfl))))))))))) rfl ?_
  refine ar_if1t rfl (by decide) ?_
  refine ar_ret0 rfl ?_
  show aRun _ (aCall Mt _) _ 4 (_, [], _, _, _)
  refine ar_ldA rfl rfl ?_
  refine ar_get rfl (hs_eq (hs_ne (by decide) (hs_ne (by decide) (hs_eq (hs_ne (by decide) (hs_ne (by decide) (hs_eq (hs_eq (hs_eq (hs_eq (hr.at 69 (by decide) (by decide) rfl))))))))))) rfl ?_
  refine ar_if1t rfl (by decide) ?_
  refine ar_ret0 rfl ?_
  show aRun _ (aCall Mt _) _ 4 (_, [], _, _, _)
  refine ar_ldA rfl rfl ?_
  refine ar_get rfl (hs_eq (hs_ne (by decide) (hs_ne (by decide) (hs_eq (hs_ne (by decide) (hs_ne (by decide) (hs_eq (hs_eq (hs_eq (hs_eq (hr.at 69 (by decide) (by decide) rfl))))))))))) rfl ?_
  refine ar_if1t rfl (by decide) ?_
  refine ar_ret0 rfl ?_
  show aRun _ (aCall Mt _) _ 27 (_, [], _, _, _)
  refine ar_ldA rfl rfl ?_
  refine ar_get rfl (hs_eq (hs_ne (by decide) (hs_ne (by decide) (hs_eq (hs_ne (by decide) (hs_ne (by decide) (hs_eq (hs_eq (hs_eq (hs_eq (hr.at 69 (by decide) (by decide) rfl))))))))))) rfl ?_
  refine ar_if1t rfl (by decide) ?_
  refine ar_ldA rfl rfl ?_
  refine ar_get rfl (hs_eq (hs_ne (by decide) (hs_ne (by decide) (hs_eq (hs_ne (by decide) (hs_ne (by decide) (hs_eq (hs_eq (hs_eq (hs_eq (hr.at 69 (by decide) (by decide) rfl))))))))))) rfl ?_
  refine ar_ldI rfl rfl ?_
  refine ar_ldA rfl rfl ?_
  refine ar_get rfl (hs_eq (hs_ne (by decide) (hs_ne (by decide) (hs_eq (hs_ne (by decide) (hs_ne (by decide) (hs_eq (hs_eq (hs_eq (hs_eq (hr.at 69 (by decide) (by decide) rfl))))))))))) rfl ?_
  refine ar_un rfl ?_
  refine ar_ast rfl (hs_ne (by decide) (hs_ne (by decide) (hs_ne (by decide) (hs_ne (by decide) (hs_ne (by decide) (hs_ne (by decide) (hs_ne (by decide) (hs_ne (by decide) (hs_ne (by decide) (hs_ne (by decide) (hr.at 87 (by decide) (by decide) rfl))))))))))) (by decide) (Nat.le_of_ble_eq_true rfl) ?_
  refine ar_ldA rfl rfl ?_
  refine ar_get rfl (hs_ne (by decide) (hs_eq (hs_ne (by decide) (hs_ne (by decide) (hs_eq (hs_ne (by decide) (hs_ne (by decide) (hs_eq (hs_eq (hs_eq (hs_eq (hr.at 69 (by decide) (by decide) rfl)))))))))))) rfl ?_
  refine ar_push rfl ?_
  refine ar_dup2 rfl rfl rfl ?_
  refine ar_ald rfl (hs_ne (by decide) (hs_ne (by decide) (hs_ne (by decide) (hs_ne (by decide) (hs_ne (by decide) (hs_ne (by decide) (hs_eq (hs_ne (by decide) (hs_ne (by decide) (hs_ne (by decide) (hs_ne (by decide) (hr.at 85 (by decide) (by decide) rfl)))))))))))) (by decide) rfl ?_
  refine ar_push rfl ?_
  refine ar_bink (z := 1) rfl (by decide) ?_
  refine ar_ast rfl (hs_ne (by decide) (hs_ne (by decide) (hs_ne (by decide) (hs_ne (by decide) (hs_ne (by decide) (hs_ne (by decide) (hs_eq (hs_ne (by decide) (hs_ne (by decide) (hs_ne (by decide) (hs_ne (by decide) (hr.at 85 (by decide) (by decide) rfl)))))))))))) (by decide) (Nat.le_of_ble_eq_true rfl) ?_
  refine ar_ret0 rfl ?_
  show aRun _ (aCall Mt _) _ 54 (_, [], _, _, _)
  refine ar_ldA rfl rfl ?_
  refine ar_get rfl (hs_ne (by decide) (hs_ne (by decide) (hs_eq (hs_ne (by decide) (hs_ne (by decide) (hs_eq (hs_ne (by decide) (hs_ne (by decide) (hs_eq (hs_eq (hs_eq (hs_eq (hr.at 69 (by decide) (by decide) rfl))))))))))))) rfl ?_
  refine ar_if1t rfl (by decide) ?_
  refine ar_ldA rfl rfl ?_
  refine ar_get rfl (hs_ne (by decide) (hs_ne (by decide) (hs_eq (hs_ne (by decide) (hs_ne (by decide) (hs_eq (hs_ne (by decide) (hs_ne (by decide) (hs_eq (hs_eq (hs_eq (hs_eq (hr.at 69 (by decide) (by decide) rfl))))))))))))) rfl ?_
  refine ar_if1t rfl (by decide) ?_
  refine ar_ldA rfl rfl ?_
  refine ar_push rfl ?_
  refine ar_put rfl (hs_ne (by decide) (hs_ne (by decide) (hs_eq (hs_ne (by decide) (hs_ne (by decide) (hs_eq (hs_ne (by decide) (hs_ne (by decide) (hs_eq (hs_eq (hs_eq (hs_eq (hr.at 69 (by decide) (by decide) rfl))))))))))))) (Nat.le_of_ble_eq_true rfl) rfl ?_
  refine ar_ldA rfl rfl ?_
  refine ar_get rfl (hs_eq (hs_ne (by decide) (hs_ne (by decide) (hs_eq (hs_ne (by decide) (hs_ne (by decide) (hs_eq (hs_ne (by decide) (hs_ne (by decide) (hs_eq (hs_eq (hs_eq (hs_eq (hr.at 69 (by decide) (by decide) rfl)))))))))))))) rfl ?_
  refine ar_if1f rfl (by decide) ?_
  refine ar_push rfl ?_
  refine ar_ldA rfl rfl ?_
  refine ar_get rfl (hs_eq (hs_ne (by decide) (hs_ne (by decide) (hs_eq (hs_ne (by decide) (hs_ne (by decide) (hs_eq (hs_ne (by decide) (hs_ne (by decide) (hs_eq (hs_eq (hs_eq (hs_eq (hr.at 69 (by decide) (by decide) rfl)))))))))))))) rfl ?_
  refine ar_bink (z := (-100)) rfl (by decide) ?_
  refine ar_ret rfl rfl ?_
  exact ⟨rfl, hJ _ _ _⟩
set_option maxRecDepth 20000 in
set_option maxHeartbeats 4000000 in
theorem p1_7_13 (J : aH → Nat → Nat → Prop) (hJ : ∀ h a b, J h a b) (kc ks : Nat) (hkc : 1000 ≤ kc) (hks : 100000 ≤ ks) : aPairI 0 69 131 227 [.inl 13] J hF kc ks := by
  refine ⟨0, 0, _, by omega, by omega, rfl, ?_⟩
  refine ac_ink [some (.inr (.inr (some 0))), some (.inl 13), none, none] mt_131 (Nat.le_of_ble_eq_true rfl) rfl ?_
  refine ar_ldA rfl rfl ?_
  refine ar_ldI rfl rfl ?_
  refine ar_inl (mc := 0) (ms := 0) rfl (rcv_of rfl) (Nat.le_of_ble_eq_true rfl) (Nat.le_of_ble_eq_true rfl) (by omega) (by omega) ?_
  refine ac_ink [some (.inr (.inr (some 0))), some (.inl 13)] mt_166 (Nat.le_of_ble_eq_true rfl) rfl ?_
  refine ar_ldI rfl rfl ?_
  refine ar_if1t rfl (by decide) ?_
  refine ar_ldI rfl rfl ?_
  refine ar_push rfl ?_
  refine ar_if2t rfl (by decide) ?_
  refine ar_ldA rfl rfl ?_
  refine ar_get rfl rfl rfl ?_
  refine ar_ldI rfl rfl ?_
  refine ar_push rfl ?_
  refine ar_bink (z := 3) rfl (by decide) ?_
  refine ar_inl (mc := 0) (ms := 0) rfl (rcv_of rfl) (Nat.le_of_ble_eq_true rfl) (Nat.le_of_ble_eq_true rfl) (by omega) (by omega) ?_
  refine ac_ink [some (.inr (.inr (some 15))), some (.inl 3)] mt_7 (Nat.le_of_ble_eq_true rfl) rfl ?_
  refine ar_ldI rfl rfl ?_
  refine ar_inl (mc := 0) (ms := 0) rfl rfl (Nat.le_of_ble_eq_true rfl) (Nat.le_of_ble_eq_true rfl) (by omega) (by omega) ?_
  refine ac_ink [some (.inl 3)] mt_175 (Nat.le_of_ble_eq_true rfl) rfl ?_
  refine ar_ldI rfl rfl ?_
  refine ar_push rfl ?_
  refine ar_push rfl ?_
  refine ar_callv rfl rfl (Nat.le_of_ble_eq_true rfl) (Nat.le_of_ble_eq_true rfl) rfl (sp_within _ _ _ _ _) ?_
  refine ar_ret rfl (bi_ret _) ?_
  show aRun _ (aCall Mt _) _ 4 (_, [_], _, _, _)
  refine ar_if1f rfl (bi_e0f (by decide)) ?_
  refine ar_ldA rfl rfl ?_
  refine ar_get rfl rfl rfl ?_
  refine ar_ldI rfl rfl ?_
  refine ar_aldA rfl rfl (by decide) rfl ?_
  refine ar_go rfl ?_
  refine ar_ret rfl rfl ?_
  show aRun _ (aCall Mt _) _ 36 (_, [_], _, _, _)
  refine ar_ret rfl rfl ?_
  show aRun _ (aCall Mt _) _ 5 (_, [_], _, _, _)
  refine ar_svAk [some (.inr (.inr (some 0))), some (.inl 13), some (.inr (.inr (some 29))), none] rfl rfl ?_
  refine ar_ldA rfl rfl ?_
  refine ar_nulS rfl ?_
  refine ar_ldA rfl rfl ?_
  refine ar_get rfl rfl rfl ?_
  refine ar_ldA rfl rfl ?_
  refine ar_inl (mc := 0) (ms := 0) rfl (rcv_of rfl) (Nat.le_of_ble_eq_true rfl) (Nat.le_of_ble_eq_true rfl) (by omega) (by omega) ?_
  refine ac_ink [some (.inr (.inr (some 5))), some (.inr (.inr (some 29))), none] mt_94 (Nat.le_of_ble_eq_true rfl) rfl ?_
  refine ar_ldA rfl rfl ?_
  refine ar_push rfl ?_
  refine ar_put rfl rfl (Nat.le_of_ble_eq_true rfl) rfl ?_
  refine ar_ldA rfl rfl ?_
  refine ar_push rfl ?_
  refine ar_put rfl (hs_eq rfl) (Nat.le_of_ble_eq_true rfl) rfl ?_
  refine ar_ldA rfl rfl ?_
  refine ar_push rfl ?_
  refine ar_put rfl (hs_eq (hs_eq rfl)) (Nat.le_of_ble_eq_true rfl) rfl ?_
  refine ar_ldA rfl rfl ?_
  refine ar_inl (mc := 0) (ms := 0) rfl (rcv_of (hs_eq (hs_eq (hs_eq rfl)))) (Nat.le_of_ble_eq_true rfl) (Nat.le_of_ble_eq_true rfl) (by omega) (by omega) ?_
  refine ac_ink [some (.inr (.inr (some 5))), none] mt_100 (Nat.le_of_ble_eq_true rfl) rfl ?_
  refine ar_ldA rfl rfl ?_
  refine ar_push rfl ?_
  refine ar_inl (mc := 0) (ms := 0) rfl (rcv_of (hs_eq (hs_eq (hs_eq rfl)))) (Nat.le_of_ble_eq_true rfl) (Nat.le_of_ble_eq_true rfl) (by omega) (by omega) ?_
  refine ac_ink [some (.inr (.inr (some 5))), some (.inl 0), none] mt_101 (Nat.le_of_ble_eq_true rfl) rfl ?_
  refine ar_ldA rfl rfl ?_
  refine ar_ldI rfl rfl ?_
  refine ar_inl (mc := 0) (ms := 0) rfl (rcv_of (hs_eq (hs_eq (hs_eq rfl)))) (Nat.le_of_ble_eq_true rfl) (Nat.le_of_ble_eq_true rfl) (by omega) (by omega) ?_
  refine ac_ink [some (.inr (.inr (some 5))), some (.inl 0), none] mt_102 (Nat.le_of_ble_eq_true rfl) rfl ?_
  refine ar_ldA rfl rfl ?_
  refine ar_ldI rfl rfl ?_
  refine ar_inl (mc := 0) (ms := 0) rfl (rcv_of (hs_eq (hs_eq (hs_eq rfl)))) (Nat.le_of_ble_eq_true rfl) (Nat.le_of_ble_eq_true rfl) (by omega) (by omega) ?_
  refine ac_ink [some (.inr (.inr (some 5))), some (.inl 0), none] mt_103 (Nat.le_of_ble_eq_true rfl) rfl ?_
  refine ar_ldA rfl rfl ?_
  refine ar_ldI rfl rfl ?_
  refine ar_inl (mc := 0) (ms := 0) rfl (rcv_of (hs_eq (hs_eq (hs_eq rfl)))) (Nat.le_of_ble_eq_true rfl) (Nat.le_of_ble_eq_true rfl) (by omega) (by omega) ?_
  refine ac_ink [some (.inr (.inr (some 5))), some (.inl 0), none, none] mt_104 (Nat.le_of_ble_eq_true rfl) rfl ?_
  refine ar_ldA rfl rfl ?_
  refine ar_ldI rfl rfl ?_
  refine ar_inl (mc := 0) (ms := 0) rfl (rcv_of (hs_eq (hs_eq (hs_eq rfl)))) (Nat.le_of_ble_eq_true rfl) (Nat.le_of_ble_eq_true rfl) (by omega) (by omega) ?_
  refine ac_ink [some (.inr (.inr (some 5))), some (.inl 0), none, none] mt_105 (Nat.le_of_ble_eq_true rfl) rfl ?_
  refine ar_ldA rfl rfl ?_
  refine ar_ldI rfl rfl ?_
  refine ar_inl (mc := 0) (ms := 0) rfl (rcv_of (hs_eq (hs_eq (hs_eq rfl)))) (Nat.le_of_ble_eq_true rfl) (Nat.le_of_ble_eq_true rfl) (by omega) (by omega) ?_
  refine ac_ink [some (.inr (.inr (some 5))), some (.inl 0), none] mt_106 (Nat.le_of_ble_eq_true rfl) rfl ?_
  refine ar_ldA rfl rfl ?_
  refine ar_inl (mc := 0) (ms := 0) rfl (rcv_of (hs_eq (hs_eq (hs_eq rfl)))) (Nat.le_of_ble_eq_true rfl) (Nat.le_of_ble_eq_true rfl) (by omega) (by omega) ?_
  refine ac_ink [some (.inr (.inr (some 5)))] mt_95 (Nat.le_of_ble_eq_true rfl) rfl ?_
  refine ar_ldA rfl rfl ?_
  refine ar_get rfl (hs_eq (hs_eq (hs_eq rfl))) rfl ?_
  refine ar_if1f rfl (by decide) ?_
  refine ar_ldA rfl rfl ?_
  refine ar_get rfl (hs_eq (hs_eq (hs_eq rfl))) rfl ?_
  refine ar_ldA rfl rfl ?_
  refine ar_get rfl (hs_eq (hs_eq (hs_eq rfl))) rfl ?_
  refine ar_if2t rfl (by decide) ?_
  refine ar_push rfl ?_
  refine ar_ret rfl rfl ?_
  show aRun _ (aCall Mt _) _ 4 (_, [_], _, _, _)
  refine ar_svIk [some (.inr (.inr (some 5))), some (.inl 0), some (.inl (-1))] rfl rfl ?_
  refine ar_ldI rfl rfl ?_
  refine ar_push rfl ?_
  refine ar_push rfl ?_
  refine ar_callv rfl rfl (Nat.le_of_ble_eq_true rfl) (Nat.le_of_ble_eq_true rfl) rfl (sp_within _ _ _ _ _) ?_
  refine ar_if1t rfl (bi_e0t (by decide)) ?_
  refine ar_ldI rfl rfl ?_
  refine ar_push rfl ?_
  refine ar_push rfl ?_
  refine ar_callv rfl rfl (Nat.le_of_ble_eq_true rfl) (Nat.le_of_ble_eq_true rfl) rfl (sp_within _ _ _ _ _) ?_
  refine ar_if1t rfl (bi_e0t (by decide)) ?_
  refine ar_ldI rfl rfl ?_
  refine ar_push rfl ?_
  refine ar_if2t rfl (by decide) ?_
  refine ar_ldA rfl rfl ?_
  refine ar_push rfl ?_
  refine ar_inl (mc := 0) (ms := 0) rfl (rcv_of (hs_eq (hs_eq (hs_eq rfl)))) (Nat.le_of_ble_eq_true rfl) (Nat.le_of_ble_eq_true rfl) (by omega) (by omega) ?_
  refine ac_ink [some (.inr (.inr (some 5))), some (.inl 40)] mt_96 (Nat.le_of_ble_eq_true rfl) rfl ?_
  refine ar_ldA rfl rfl ?_
  refine ar_inl (mc := 0) (ms := 0) rfl (rcv_of (hs_eq (hs_eq (hs_eq rfl)))) (Nat.le_of_ble_eq_true rfl) (Nat.le_of_ble_eq_true rfl) (by omega) (by omega) ?_
  refine ac_ink [some (.inr (.inr (some 5)))] mt_95 (Nat.le_of_ble_eq_true rfl) rfl ?_
  refine ar_ldA rfl rfl ?_
  refine ar_get rfl (hs_eq (hs_eq (hs_eq rfl))) rfl ?_
  refine ar_if1f rfl (by decide) ?_
  refine ar_ldA rfl rfl ?_
  refine ar_get rfl (hs_eq (hs_eq (hs_eq rfl))) rfl ?_
  refine ar_ldA rfl rfl ?_
  refine ar_get rfl (hs_eq (hs_eq (hs_eq rfl))) rfl ?_
  refine ar_if2t rfl (by decide) ?_
  refine ar_push rfl ?_
  refine ar_ret rfl rfl ?_
  show aRun _ (aCall Mt _) _ 4 (_, [_], _, _, _)
  refine ar_ldI rfl rfl ?_
  refine ar_if2f rfl (by decide) ?_
  refine ar_push rfl ?_
  refine ar_ret rfl rfl ?_
  show aRun _ (aCall Mt _) _ 88 (_, [_], _, _, _)
  refine ar_if1t rfl (by decide) ?_
  refine ar_ldA rfl rfl ?_
  refine ar_push rfl ?_
  refine ar_inl (mc := 0) (ms := 0) rfl (rcv_of (hs_eq (hs_eq (hs_eq rfl)))) (Nat.le_of_ble_eq_true rfl) (Nat.le_of_ble_eq_true rfl) (by omega) (by omega) ?_
  refine ac_ink [some (.inr (.inr (some 5))), some (.inl 33)] mt_96 (Nat.le_of_ble_eq_true rfl) rfl ?_
  refine ar_ldA rfl rfl ?_
  refine ar_inl (mc := 0) (ms := 0) rfl (rcv_of (hs_eq (hs_eq (hs_eq rfl)))) (Nat.le_of_ble_eq_true rfl) (Nat.le_of_ble_eq_true rfl) (by omega) (by omega) ?_
  refine ac_ink [some (.inr (.inr (some 5)))] mt_95 (Nat.le_of_ble_eq_true rfl) rfl ?_
  refine ar_ldA rfl rfl ?_
  refine ar_get rfl (hs_eq (hs_eq (hs_eq rfl))) rfl ?_
  refine ar_if1f rfl (by decide) ?_
  refine ar_ldA rfl rfl ?_
  refine ar_get rfl (hs_eq (hs_eq (hs_eq rfl))) rfl ?_
  refine ar_ldA rfl rfl ?_
  refine ar_get rfl (hs_eq (hs_eq (hs_eq rfl))) rfl ?_
  refine ar_if2t rfl (by decide) ?_
  refine ar_push rfl ?_
  refine ar_ret rfl rfl ?_
  show aRun _ (aCall Mt _) _ 4 (_, [_], _, _, _)
  refine ar_ldI rfl rfl ?_
  refine ar_if2f rfl (by decide) ?_
  refine ar_push rfl ?_
  refine ar_ret rfl rfl ?_
  show aRun _ (aCall Mt _) _ 120 (_, [_], _, _, _)
  refine ar_if1t rfl (by decide) ?_
  refine ar_ldA rfl rfl ?_
  refine ar_push rfl ?_
  refine ar_inl (mc := 0) (ms := 0) rfl (rcv_of (hs_eq (hs_eq (hs_eq rfl)))) (Nat.le_of_ble_eq_true rfl) (Nat.le_of_ble_eq_true rfl) (by omega) (by omega) ?_
  refine ac_ink [some (.inr (.inr (some 5))), some (.inl 45)] mt_96 (Nat.le_of_ble_eq_true rfl) rfl ?_
  refine ar_ldA rfl rfl ?_
  refine ar_inl (mc := 0) (ms := 0) rfl (rcv_of (hs_eq (hs_eq (hs_eq rfl)))) (Nat.le_of_ble_eq_true rfl) (Nat.le_of_ble_eq_true rfl) (by omega) (by omega) ?_
  refine ac_ink [some (.inr (.inr (some 5)))] mt_95 (Nat.le_of_ble_eq_true rfl) rfl ?_
  refine ar_ldA rfl rfl ?_
  refine ar_get rfl (hs_eq (hs_eq (hs_eq rfl))) rfl ?_
  refine ar_if1f rfl (by decide) ?_
  refine ar_ldA rfl rfl ?_
  refine ar_get rfl (hs_eq (hs_eq (hs_eq rfl))) rfl ?_
  refine ar_ldA rfl rfl ?_
  refine ar_get rfl (hs_eq (hs_eq (hs_eq rfl))) rfl ?_
  refine ar_if2t rfl (by decide) ?_
  refine ar_push rfl ?_
  refine ar_ret rfl rfl ?_
  show aRun _ (aCall Mt _) _ 4 (_, [_], _, _, _)
  refine ar_ldI rfl rfl ?_
  refine ar_if2f rfl (by decide) ?_
  refine ar_push rfl ?_
  refine ar_ret rfl rfl ?_
  show aRun _ (aCall Mt _) _ 145 (_, [_], _, _, _)
  refine ar_if1t rfl (by decide) ?_
  refine ar_ldA rfl rfl ?_
  refine ar_inl (mc := 0) (ms := 0) rfl (rcv_of (hs_eq (hs_eq (hs_eq rfl)))) (Nat.le_of_ble_eq_true rfl) (Nat.le_of_ble_eq_true rfl) (by omega) (by omega) ?_
  refine ac_ink [some (.inr (.inr (some 5)))] mt_99 (Nat.le_of_ble_eq_true rfl) rfl ?_
  refine ar_ldA rfl rfl ?_
  refine ar_get rfl (hs_eq (hs_eq (hs_eq rfl))) rfl ?_
  refine ar_push rfl ?_
  refine ar_if2f rfl (by decide) ?_
  refine ar_ldA rfl rfl ?_
  refine ar_ldA rfl rfl ?_
  refine ar_get rfl (hs_eq (hs_eq (hs_eq rfl))) rfl ?_
  refine ar_put rfl (hs_eq (hs_eq (hs_eq rfl))) (Nat.le_of_ble_eq_true rfl) rfl ?_
  refine ar_ret0 rfl ?_
  show aRun _ (aCall Mt _) _ 168 (_, [], _, _, _)
  refine ar_ret0 rfl ?_
  show aRun _ (aCall Mt _) _ 5 (_, [], _, _, _)
  refine ar_push rfl ?_
  refine ar_svIk [some (.inr (.inr (some 5))), some (.inl 0), some (.inl 0), none] rfl rfl ?_
  refine ar_ldI rfl rfl ?_
  refine ar_ldA rfl rfl ?_
  refine ar_get rfl (hs_eq (hs_eq (hs_eq (hs_eq rfl)))) rfl ?_
  refine ar_if2t rfl (by decide) ?_
  refine ar_ret0 rfl ?_
  show aRun _ (aCall Mt _) _ 5 (_, [], _, _, _)
  refine ar_push rfl ?_
  refine ar_svIk [some (.inr (.inr (some 5))), some (.inl 0), some (.inl 0), none] rfl rfl ?_
  refine ar_ldI rfl rfl ?_
  refine ar_ldA rfl rfl ?_
  refine ar_get rfl (hs_eq (hs_eq (hs_eq (hs_eq rfl)))) rfl ?_
  refine ar_if2t rfl (by decide) ?_
  refine ar_ret0 rfl ?_
  show aRun _ (aCall Mt _) _ 5 (_, [], _, _, _)
  refine ar_ldA rfl rfl ?_
  refine ar_push rfl ?_
  refine ar_inl (mc := 0) (ms := 0) rfl (rcv_of (hs_eq (hs_eq (hs_eq (hs_eq rfl))))) (Nat.le_of_ble_eq_true rfl) (Nat.le_of_ble_eq_true rfl) (by omega) (by omega) ?_
  refine ac_ink [some (.inr (.inr (some 5))), some (.inl 60)] mt_97 (Nat.le_of_ble_eq_true rfl) rfl ?_
  refine ar_ldA rfl rfl ?_
  refine ar_get rfl (hs_eq (hs_eq (hs_eq (hs_eq rfl)))) rfl ?_
  refine ar_push rfl ?_
  refine ar_if2t rfl (by decide) ?_
  refine ar_push rfl ?_
  refine ar_ret rfl rfl ?_
  show aRun _ (aCall Mt _) _ 11 (_, [_], _, _, _)
  refine ar_if1t rfl (by decide) ?_
  refine ar_ldA rfl rfl ?_
  refine ar_push rfl ?_
  refine ar_inl (mc := 0) (ms := 0) rfl (rcv_of (hs_eq (hs_eq (hs_eq (hs_eq rfl))))) (Nat.le_of_ble_eq_true rfl) (Nat.le_of_ble_eq_true rfl) (by omega) (by omega) ?_
  refine ac_ink [some (.inr (.inr (some 5))), some (.inl 61)] mt_97 (Nat.le_of_ble_eq_true rfl) rfl ?_
  refine ar_ldA rfl rfl ?_
  refine ar_get rfl (hs_eq (hs_eq (hs_eq (hs_eq rfl)))) rfl ?_
  refine ar_push rfl ?_
  refine ar_if2t rfl (by decide) ?_
  refine ar_push rfl ?_
  refine ar_ret rfl rfl ?_
  show aRun _ (aCall Mt _) _ 25 (_, [_], _, _, _)
  refine ar_if1t rfl (by decide) ?_
  refine ar_ldA rfl rfl ?_
  refine ar_push rfl ?_
  refine ar_inl (mc := 0) (ms := 0) rfl (rcv_of (hs_eq (hs_eq (hs_eq (hs_eq rfl))))) (Nat.le_of_ble_eq_true rfl) (Nat.le_of_ble_eq_true rfl) (by omega) (by omega) ?_
  refine ac_ink [some (.inr (.inr (some 5))), some (.inl 62)] mt_97 (Nat.le_of_ble_eq_true rfl) rfl ?_
  refine ar_ldA rfl rfl ?_
  refine ar_get rfl (hs_eq (hs_eq (hs_eq (hs_eq rfl)))) rfl ?_
  refine ar_push rfl ?_
  refine ar_if2t rfl (by decide) ?_
  refine ar_push rfl ?_
  refine ar_ret rfl rfl ?_
  show aRun _ (aCall Mt _) _ 39 (_, [_], _, _, _)
  refine ar_if1t rfl (by decide) ?_
  refine ar_push rfl ?_
  refine ar_svIk [some (.inr (.inr (some 5))), some (.inl 0), some (.inl 15)] rfl rfl ?_
  refine ar_ldI rfl rfl ?_
  refine ar_push rfl ?_
  refine ar_if2f rfl (by decide) ?_
  refine ar_ret0 rfl ?_
  show aRun _ (aCall Mt _) _ 5 (_, [], _, _, _)
  refine ar_push rfl ?_
  refine ar_svIk [some (.inr (.inr (some 5))), some (.inl 0), some (.inl 0)] rfl rfl ?_
  refine ar_ldI rfl rfl ?_
  refine ar_ldA rfl rfl ?_
  refine ar_get rfl (hs_eq (hs_eq (hs_eq (hs_eq rfl)))) rfl ?_
  refine ar_if2t rfl (by decide) ?_
  refine ar_ret0 rfl ?_
  show aRun _ (aCall Mt _) _ 5 (_, [], _, _, _)
  refine ar_push rfl ?_
  refine ar_svIk [some (.inr (.inr (some 5))), some (.inl 0), some (.inl 0)] rfl rfl ?_
  refine ar_ldI rfl rfl ?_
  refine ar_ldA rfl rfl ?_
  refine ar_get rfl (hs_eq (hs_eq (hs_eq (hs_eq rfl)))) rfl ?_
  refine ar_if2t rfl (by decide) ?_
  refine ar_ret0 rfl ?_
  show aRun _ (aCall Mt _) _ 5 (_, [], _, _, _)
  refine ar_ldA rfl rfl ?_
  refine ar_push rfl ?_
  refine ar_inl (mc := 0) (ms := 0) rfl (rcv_of (hs_eq (hs_eq (hs_eq (hs_eq rfl))))) (Nat.le_of_ble_eq_true rfl) (Nat.le_of_ble_eq_true rfl) (by omega) (by omega) ?_
  refine ac_ink [some (.inr (.inr (some 5))), some (.inl 63)] mt_97 (Nat.le_of_ble_eq_true rfl) rfl ?_
  refine ar_ldA rfl rfl ?_
  refine ar_get rfl (hs_eq (hs_eq (hs_eq (hs_eq rfl)))) rfl ?_
  refine ar_push rfl ?_
  refine ar_if2t rfl (by decide) ?_
  refine ar_push rfl ?_
  refine ar_ret rfl rfl ?_
  show aRun _ (aCall Mt _) _ 11 (_, [_], _, _, _)
  refine ar_if1f rfl (by decide) ?_
  refine ar_ldA rfl rfl ?_
  refine ar_push rfl ?_
  refine ar_push rfl ?_
  refine ar_inl (mc := 0) (ms := 0) rfl (rcv_of (hs_eq (hs_eq (hs_eq (hs_eq rfl))))) (Nat.le_of_ble_eq_true rfl) (Nat.le_of_ble_eq_true rfl) (by omega) (by omega) ?_
  refine ac_ink [some (.inr (.inr (some 5))), some (.inl 15), some (.inl 0)] mt_98 (Nat.le_of_ble_eq_true rfl) rfl ?_
  refine ar_ldA rfl rfl ?_
  refine ar_get rfl (hs_eq (hs_eq (hs_eq (hs_eq rfl)))) rfl ?_
  refine ar_ldA rfl rfl ?_
  refine ar_get rfl (hs_eq (hs_eq (hs_eq (hs_eq rfl)))) rfl ?_
  refine ar_len rfl (hs_ne (by decide) (hs_ne (by decide) (hs_ne (by decide) (hs_ne (by decide) rfl)))) ?_
  refine ar_if2t rfl (by decide) ?_
  refine ar_ldA rfl rfl ?_
  refine ar_get rfl (hs_eq (hs_eq (hs_eq (hs_eq rfl)))) rfl ?_
  refine ar_ldA rfl rfl ?_
  refine ar_get rfl (hs_eq (hs_eq (hs_eq (hs_eq rfl)))) rfl ?_
  refine ar_ldI rfl rfl ?_
  refine ar_ldI rfl rfl ?_
  refine ar_inl (mc := 0) (ms := 0) rfl rfl (Nat.le_of_ble_eq_true rfl) (Nat.le_of_ble_eq_true rfl) (by omega) (by omega) ?_
  refine ac_ink [some (.inl 15), some (.inl 0)] mt_111 (Nat.le_of_ble_eq_true rfl) rfl ?_
  refine ar_ldI rfl rfl ?_
  refine ar_push rfl ?_
  refine ar_bink (z := 0) rfl (by decide) ?_
  refine ar_ldI rfl rfl ?_
  refine ar_bink (z := 15) rfl (by decide) ?_
  refine ar_ret rfl rfl ?_
  show aRun _ (aCall Mt _) _ 26 (_, [_, _, _], _, _, _)
  refine ar_ast rfl (hs_ne (by decide) (hs_ne (by decide) (hs_ne (by decide) (hs_ne (by decide) rfl)))) (by decide) (Nat.le_of_ble_eq_true rfl) ?_
  refine ar_ldA rfl rfl ?_
  refine ar_dup rfl rfl ?_
  refine ar_get rfl (hs_ne (by decide) (hs_eq (hs_eq (hs_eq (hs_eq rfl))))) rfl ?_
  refine ar_push rfl ?_
  refine ar_bink (z := 1) rfl (by decide) ?_
  refine ar_put rfl (hs_ne (by decide) (hs_eq (hs_eq (hs_eq (hs_eq rfl))))) (Nat.le_of_ble_eq_true rfl) rfl ?_
  refine ar_ret0 rfl ?_
  show aRun _ (aCall Mt _) _ 21 (_, [], _, _, _)
  refine ar_ret0 rfl ?_
  show aRun _ (aCall Mt _) _ 19 (_, [], _, _, _)
  refine ar_push rfl ?_
  refine ar_svIk [some (.inr (.inr (some 5))), some (.inr (.inr (some 29))), some (.inl 0)] rfl rfl ?_
  refine ar_ldI rfl rfl ?_
  refine ar_ldA rfl rfl ?_
  refine ar_get rfl (hs_eq (hs_ne (by decide) (hs_eq (hs_eq (hs_eq (hs_eq rfl)))))) rfl ?_
  refine ar_if2t rfl (by decide) ?_
  refine ar_ldA rfl rfl ?_
  refine ar_get rfl (hs_eq (hs_ne (by decide) (hs_eq (hs_eq (hs_eq (hs_eq rfl)))))) rfl ?_
  refine ar_push rfl ?_
  refine ar_if2t rfl (by decide) ?_
  refine ar_ldA rfl rfl ?_
  refine ar_get rfl (hs_eq (hs_ne (by decide) (hs_eq (hs_eq (hs_eq (hs_eq rfl)))))) rfl ?_
  refine ar_push rfl ?_
  refine ar_if2t rfl (by decide) ?_
  refine ar_ldA rfl rfl ?_
  refine ar_push rfl ?_
  refine ar_put rfl (hs_eq (hs_ne (by decide) (hs_eq (hs_eq (hs_eq (hs_eq rfl)))))) (Nat.le_of_ble_eq_true rfl) rfl ?_
  refine ar_ldA rfl rfl ?_
  refine ar_get rfl (hs_eq (hs_eq (hs_ne (by decide) (hs_eq (hs_eq (hs_eq (hs_eq rfl))))))) rfl ?_
  refine ar_ret rfl rfl ?_
  show aRun _ (aCall Mt _) _ 20 (_, [_], _, _, _)
  refine ar_svIk [some (.inr (.inr (some 0))), some (.inl 13), some (.inr (.inr (some 29))), some (.inl 0)] rfl rfl ?_
  refine ar_ldI rfl rfl ?_
  refine ar_push rfl ?_
  refine ar_if2f rfl (by decide) ?_
  refine ar_push rfl ?_
  refine ar_ldI rfl rfl ?_
  refine ar_bink (z := (-100)) rfl (by decide) ?_
  refine ar_ret rfl rfl ?_
  refine ⟨_, 0, 0, _, rfl, Nat.zero_le _, Nat.zero_le _, (hs_ne (by decide) (hs_ne (by decide) (hs_ne (by decide) (hs_ne (by decide) (hs_ne (by decide) (hs_ne (by decide) (hs_ne (by decide) rfl))))))), ?_⟩
  refine rgen (((((((rFr_F.sets (by decide)).sets (by decide)).sets (by decide)).sets (by decide)).sets (by decide)).sets (by decide)).sets (by decide)) (fun g hr => ?_)
  refine ac_ink [some (.inr (.inr (some 69))), some (.inl 13), none, none] mt_227 (Nat.le_of_ble_eq_true rfl) rfl ?_
  refine ar_ldI rfl rfl ?_
  refine ar_push rfl ?_
  refine ar_push rfl ?_
  refine ar_callv rfl rfl (Nat.le_of_ble_eq_true rfl) (Nat.le_of_ble_eq_true rfl) rfl (sp_in _ _ _ _ _) ?_
  refine ar_if1f rfl (bi_n0f (by decide)) ?_
  refine ar_ldI rfl rfl ?_
  refine ar_push rfl ?_
  refine ar_push rfl ?_
  refine ar_callv rfl rfl (Nat.le_of_ble_eq_true rfl) (Nat.le_of_ble_eq_true rfl) rfl (sp_in _ _ _ _ _) ?_
  refine ar_if1t rfl (bi_n0t (by decide)) ?_
  refine ar_ldA rfl rfl ?_
  refine ar_push rfl ?_
  refine ar_put rfl (hr.at 69 (by decide) (by decide) rfl) (Nat.le_of_ble_eq_true rfl) rfl ?_
  refine ar_ldA rfl rfl ?_
  refine ar_push rfl ?_
  refine ar_put rfl (hs_eq (hr.at 69 (by decide) (by decide) rfl)) (Nat.le_of_ble_eq_true rfl) rfl ?_
  refine ar_ldA rfl rfl ?_
  refine ar_push rfl ?_
  refine ar_put rfl (hs_eq (hs_eq (hr.at 69 (by decide) (by decide) rfl))) (Nat.le_of_ble_eq_true rfl) rfl ?_
  refine ar_ldA rfl rfl ?_
  refine ar_push rfl ?_
  refine ar_put rfl (hs_eq (hs_eq (hs_eq (hr.at 69 (by decide) (by decide) rfl)))) (Nat.le_of_ble_eq_true rfl) rfl ?_
  refine ar_ldA rfl rfl ?_
  refine ar_get rfl (hs_eq (hs_eq (hs_eq (hs_eq (hr.at 69 (by decide) (by decide) rfl))))) rfl ?_
  refine ar_push rfl ?_
  refine ar_push rfl ?_
  refine ar_ast rfl (hs_ne (by decide) (hs_ne (by decide) (hs_ne (by decide) (hs_ne (by decide) (hr.at 85 (by decide) (by decide) rfl))))) (by decide) (Nat.le_of_ble_eq_true rfl) ?_
  refine ar_ldA rfl rfl ?_
  refine ar_inl (mc := 0) (ms := 0) rfl (rcv_of (hs_ne (by decide) (hs_eq (hs_eq (hs_eq (hs_eq (hr.at 69 (by decide) (by decide) rfl))))))) (Nat.le_of_ble_eq_true rfl) (Nat.le_of_ble_eq_true rfl) (by omega) (by omega) ?_
  refine ac_ink [some (.inr (.inr (some 69))), none] mt_225 (Nat.le_of_ble_eq_true rfl) rfl ?_
  refine ar_push rfl ?_
  refine ar_ldA rfl rfl ?_
  refine ar_get rfl (hs_ne (by decide) (hs_eq (hs_eq (hs_eq (hs_eq (hr.at 69 (by decide) (by decide) rfl)))))) rfl ?_
  refine ar_push rfl ?_
  refine ar_ald rfl (hs_eq (hs_ne (by decide) (hs_ne (by decide) (hs_ne (by decide) (hs_ne (by decide) (hr.at 85 (by decide) (by decide) rfl)))))) (by decide) rfl ?_
  refine ar_bink (z := 671) rfl (by decide) ?_
  refine ar_svIk [some (.inr (.inr (some 69))), some (.inl 671)] rfl rfl ?_
  refine ar_ldA rfl rfl ?_
  refine ar_get rfl (hs_ne (by decide) (hs_eq (hs_eq (hs_eq (hs_eq (hr.at 69 (by decide) (by decide) rfl)))))) rfl ?_
  refine ar_ldI rfl rfl ?_
  refine ar_ldA rfl rfl ?_
  refine ar_get rfl (hs_ne (by decide) (hs_eq (hs_eq (hs_eq (hs_eq (hr.at 69 (by decide) (by decide) rfl)))))) rfl ?_
  refine ar_un rfl ?_
  refine ar_ast rfl (hs_ne (by decide) (hs_ne (by decide) (hs_ne (by decide) (hs_ne (by decide) (hs_ne (by decide) (hr.at 86 (by decide) (by decide) rfl)))))) (by decide) (Nat.le_of_ble_eq_true rfl) ?_
  refine ar_ldA rfl rfl ?_
  refine ar_inl (mc := 0) (ms := 0) rfl (rcv_of (hs_ne (by decide) (hs_ne (by decide) (hs_eq (hs_eq (hs_eq (hs_eq (hr.at 69 (by decide) (by decide) rfl)))))))) (Nat.le_of_ble_eq_true rfl) (Nat.le_of_ble_eq_true rfl) (by omega) (by omega) ?_
  refine ac_ink [some (.inr (.inr (some 69)))] mt_224 (Nat.le_of_ble_eq_true rfl) rfl ?_
  refine ar_ldA rfl rfl ?_
  refine ar_inl (mc := 0) (ms := 0) rfl (rcv_of (hs_ne (by decide) (hs_ne (by decide) (hs_eq (hs_eq (hs_eq (hs_eq (hr.at 69 (by decide) (by decide) rfl)))))))) (Nat.le_of_ble_eq_true rfl) (Nat.le_of_ble_eq_true rfl) (by omega) (by omega) ?_
  refine ac_ink [some (.inr (.inr (some 69)))] mt_223 (Nat.le_of_ble_eq_true rfl) rfl ?_
  refine ar_ldA rfl rfl ?_
  refine ar_inl (mc := 0) (ms := 0) rfl (rcv_of (hs_ne (by decide) (hs_ne (by decide) (hs_eq (hs_eq (hs_eq (hs_eq (hr.at 69 (by decide) (by decide) rfl)))))))) (Nat.le_of_ble_eq_true rfl) (Nat.le_of_ble_eq_true rfl) (by omega) (by omega) ?_
  refine ac_ink [some (.inr (.inr (some 69))), none] mt_222 (Nat.le_of_ble_eq_true rfl) rfl ?_
  refine ar_ldA rfl rfl ?_
  refine ar_inl (mc := 0) (ms := 0) rfl (rcv_of (hs_ne (by decide) (hs_ne (by decide) (hs_eq (hs_eq (hs_eq (hs_eq (hr.at 69 (by decide) (by decide) rfl)))))))) (Nat.le_of_ble_eq_true rfl) (Nat.le_of_ble_eq_true rfl) (by omega) (by omega) ?_
  refine ac_ink [some (.inr (.inr (some 69))), none] mt_221 (Nat.le_of_ble_eq_true rfl) rfl ?_
  refine ar_ldA rfl rfl ?_
  refine ar_inl (mc := 0) (ms := 0) rfl (rcv_of (hs_ne (by decide) (hs_ne (by decide) (hs_eq (hs_eq (hs_eq (hs_eq (hr.at 69 (by decide) (by decide) rfl)))))))) (Nat.le_of_ble_eq_true rfl) (Nat.le_of_ble_eq_true rfl) (by omega) (by omega) ?_
  refine ac_ink [some (.inr (.inr (some 69))), none] mt_220 (Nat.le_of_ble_eq_true rfl) rfl ?_
  refine ar_ldA rfl rfl ?_
  refine ar_inl (mc := 0) (ms := 0) rfl (rcv_of (hs_ne (by decide) (hs_ne (by decide) (hs_eq (hs_eq (hs_eq (hs_eq (hr.at 69 (by decide) (by decide) rfl)))))))) (Nat.le_of_ble_eq_true rfl) (Nat.le_of_ble_eq_true rfl) (by omega) (by omega) ?_
  refine ac_ink [some (.inr (.inr (some 69))), none] mt_219 (Nat.le_of_ble_eq_true rfl) rfl ?_
  refine ar_ldA rfl rfl ?_
  refine ar_inl (mc := 0) (ms := 0) rfl (rcv_of (hs_ne (by decide) (hs_ne (by decide) (hs_eq (hs_eq (hs_eq (hs_eq (hr.at 69 (by decide) (by decide) rfl)))))))) (Nat.le_of_ble_eq_true rfl) (Nat.le_of_ble_eq_true rfl) (by omega) (by omega) ?_
  refine ac_ink [some (.inr (.inr (some 69)))] mt_213 (Nat.le_of_ble_eq_true rfl) rfl ?_
  refine ar_ldA rfl rfl ?_
  refine ar_get rfl (hs_ne (by decide) (hs_ne (by decide) (hs_eq (hs_eq (hs_eq (hs_eq (hr.at 69 (by decide) (by decide) rfl))))))) rfl ?_
  refine ar_ldA rfl rfl ?_
  refine ar_get rfl (hs_ne (by decide) (hs_ne (by decide) (hs_eq (hs_eq (hs_eq (hs_eq (hr.at 69 (by decide) (by decide) rfl))))))) rfl ?_
  refine ar_if2t rfl (by decide) ?_
  refine ar_push rfl ?_
  refine ar_ret rfl rfl ?_
  show aRun _ (aCall Mt _) _ 4 (_, [_], _, _, _)
  refine ar_svIk [some (.inr (.inr (some 69))), some (.inl (-1))] rfl rfl ?_
  refine ar_ldI rfl rfl ?_
  refine ar_inl (mc := 0) (ms := 0) rfl rfl (Nat.le_of_ble_eq_true rfl) (Nat.le_of_ble_eq_true rfl) (by omega) (by omega) ?_
  refine ac_ink [some (.inl (-1))] mt_216 (Nat.le_of_ble_eq_true rfl) rfl ?_
  refine ar_ldI rfl rfl ?_
  refine ar_tabO rfl (by decide) ?_
  refine ar_push rfl ?_
  refine ar_ret rfl rfl ?_
  show aRun _ (aCall Mt _) _ 9 (_, [_], _, _, _)
  refine ar_if1t rfl (by decide) ?_
  refine ar_ldI rfl rfl ?_
  refine ar_push rfl ?_
  refine ar_if2f rfl (by decide) ?_
  refine ar_ldI rfl rfl ?_
  refine ar_push rfl ?_
  refine ar_if2t rfl (by decide) ?_
  refine ar_ldI rfl rfl ?_
  refine ar_push rfl ?_
  refine ar_if2t rfl (by decide) ?_
  refine ar_ldA rfl rfl ?_
  refine ar_inl (mc := 0) (ms := 0) rfl (rcv_of (hs_ne (by decide) (hs_ne (by decide) (hs_eq (hs_eq (hs_eq (hs_eq (hr.at 69 (by decide) (by decide) rfl)))))))) (Nat.le_of_ble_eq_true rfl) (Nat.le_of_ble_eq_true rfl) (by omega) (by omega) ?_
  refine ac_ink [some (.inr (.inr (some 69))), none, none] mt_218 (Nat.le_of_ble_eq_true rfl) rfl ?_
  refine ar_push rfl ?_
  refine ar_svIk [some (.inr (.inr (some 69))), some (.inl 0), none] rfl rfl ?_
  refine ar_push rfl ?_
  refine ar_svIk [some (.inr (.inr (some 69))), some (.inl 0), some (.inl 0)] rfl rfl ?_
  refine ar_ldI rfl rfl ?_
  refine ar_push rfl ?_
  refine ar_if2f rfl (by decide) ?_
  refine ar_ldA rfl rfl ?_
  refine ar_inl (mc := 0) (ms := 0) rfl (rcv_of (hs_ne (by decide) (hs_ne (by decide) (hs_eq (hs_eq (hs_eq (hs_eq (hr.at 69 (by decide) (by decide) rfl)))))))) (Nat.le_of_ble_eq_true rfl) (Nat.le_of_ble_eq_true rfl) (by omega) (by omega) ?_
  refine ac_ink [some (.inr (.inr (some 69)))] mt_213 (Nat.le_of_ble_eq_true rfl) rfl ?_
  refine ar_ldA rfl rfl ?_
  refine ar_get rfl (hs_ne (by decide) (hs_ne (by decide) (hs_eq (hs_eq (hs_eq (hs_eq (hr.at 69 (by decide) (by decide) rfl))))))) rfl ?_
  refine ar_ldA rfl rfl ?_
  refine ar_get rfl (hs_ne (by decide) (hs_ne (by decide) (hs_eq (hs_eq (hs_eq (hs_eq (hr.at 69 (by decide) (by decide) rfl))))))) rfl ?_
  refine ar_if2t rfl (by decide) ?_
  refine ar_push rfl ?_
  refine ar_ret rfl rfl ?_
  show aRun _ (aCall Mt _) _ 14 (_, [_], _, _, _)
  refine ar_push rfl ?_
  refine ar_push rfl ?_
  refine ar_callv rfl rfl (Nat.le_of_ble_eq_true rfl) (Nat.le_of_ble_eq_true rfl) rfl (sp_in _ _ _ _ _) ?_
  refine ar_if1t rfl (bi_e0t (by decide)) ?_
  refine ar_ldI rfl rfl ?_
  refine ar_if1t rfl (by decide) ?_
  refine ar_ldA rfl rfl ?_
  refine ar_inl (mc := 0) (ms := 0) rfl (rcv_of (hs_ne (by decide) (hs_ne (by decide) (hs_eq (hs_eq (hs_eq (hs_eq (hr.at 69 (by decide) (by decide) rfl)))))))) (Nat.le_of_ble_eq_true rfl) (Nat.le_of_ble_eq_true rfl) (by omega) (by omega) ?_
  refine ac_ink [some (.inr (.inr (some 69)))] mt_214 (Nat.le_of_ble_eq_true rfl) rfl ?_
  refine ar_ldA rfl rfl ?_
  refine ar_get rfl (hs_ne (by decide) (hs_ne (by decide) (hs_eq (hs_eq (hs_eq (hs_eq (hr.at 69 (by decide) (by decide) rfl))))))) rfl ?_
  refine ar_if1f rfl (by decide) ?_
  refine ar_ldA rfl rfl ?_
  refine ar_ldA rfl rfl ?_
  refine ar_get rfl (hs_ne (by decide) (hs_ne (by decide) (hs_eq (hs_eq (hs_eq (hs_eq (hr.at 69 (by decide) (by decide) rfl))))))) rfl ?_
  refine ar_put rfl (hs_ne (by decide) (hs_ne (by decide) (hs_eq (hs_eq (hs_eq (hs_eq (hr.at 69 (by decide) (by decide) rfl))))))) (Nat.le_of_ble_eq_true rfl) rfl ?_
  refine ar_ret0 rfl ?_
  show aRun _ (aCall Mt _) _ 75 (_, [], _, _, _)
  refine ar_ldA rfl rfl ?_
  refine ar_push rfl ?_
  refine ar_ldI rfl rfl ?_
  refine ar_inl (mc := 0) (ms := 0) rfl (rcv_of (hs_eq (hs_ne (by decide) (hs_ne (by decide) (hs_eq (hs_eq (hs_eq (hs_eq (hr.at 69 (by decide) (by decide) rfl))))))))) (Nat.le_of_ble_eq_true rfl) (Nat.le_of_ble_eq_true rfl) (by omega) (by omega) ?_
  refine ac_ink [some (.inr (.inr (some 69))), some (.inl 1), some (.inl 0)] mt_215 (Nat.le_of_ble_eq_true rfl) rfl ?_
  refine ar_ldA rfl rfl ?_
  refine ar_get rfl (hs_eq (hs_ne (by decide) (hs_ne (by decide) (hs_eq (hs_eq (hs_eq (hs_eq (hr.at 69 (by decide) (by decide) rfl)))))))) rfl ?_
  refine ar_push rfl ?_
  refine ar_ldA rfl rfl ?_
  refine ar_get rfl (hs_eq (hs_ne (by decide) (hs_ne (by decide) (hs_eq (hs_eq (hs_eq (hs_eq (hr.at 69 (by decide) (by decide) rfl)))))))) rfl ?_
  refine ar_bink (z := 1430) rfl (by decide) ?_
  refine ar_ldI rfl rfl ?_
  refine ar_un rfl ?_
  refine ar_ast rfl (hs_ne (by decide) (hs_ne (by decide) (hs_ne (by decide) (hs_ne (by decide) (hs_ne (by decide) (hs_ne (by decide) (hs_ne (by decide) (hr.at 83 (by decide) (by decide) rfl)))))))) (by decide) (Nat.le_of_ble_eq_true rfl) ?_
  refine ar_ldA rfl rfl ?_
  refine ar_get rfl (hs_ne (by decide) (hs_eq (hs_ne (by decide) (hs_ne (by decide) (hs_eq (hs_eq (hs_eq (hs_eq (hr.at 69 (by decide) (by decide) rfl))))))))) rfl ?_
  refine ar_push rfl ?_
  refine ar_ldA rfl rfl ?_
  refine ar_get rfl (hs_ne (by decide) (hs_eq (hs_ne (by decide) (hs_ne (by decide) (hs_eq (hs_eq (hs_eq (hs_eq (hr.at 69 (by decide) (by decide) rfl))))))))) rfl ?_
  refine ar_bink (z := 1430) rfl (by decide) ?_
  refine ar_ldI rfl rfl ?_
  refine ar_ast rfl (hs_ne (by decide) (hs_ne (by decide) (hs_ne (by decide) (hs_ne (by decide) (hs_ne (by decide) (hs_ne (by decide) (hs_ne (by decide) (hs_ne (by decide) (hr.at 84 (by decide) (by decide) rfl))))))))) (by decide) (Nat.le_of_ble_eq_true rfl) ?_
  refine ar_ldA rfl rfl ?_
  refine ar_dup rfl rfl ?_
  refine ar_get rfl (hs_ne (by decide) (hs_ne (by decide) (hs_eq (hs_ne (by decide) (hs_ne (by decide) (hs_eq (hs_eq (hs_eq (hs_eq (hr.at 69 (by decide) (by decide) rfl)))))))))) rfl ?_
  refine ar_push rfl ?_
  refine ar_bink (z := 1) rfl (by decide) ?_
  refine ar_put rfl (hs_ne (by decide) (hs_ne (by decide) (hs_eq (hs_ne (by decide) (hs_ne (by decide) (hs_eq (hs_eq (hs_eq (hs_eq (hr.at 69 (by decide) (by decide) rfl)))))))))) (Nat.le_of_ble_eq_true rfl) rfl ?_
  refine ar_ret0 rfl ?_
  show aRun _ (aCall Mt _) _ 81 (_, [], _, _, _)
  refine ar_ret0 rfl ?_
  show aRun _ (aCall Mt _) _ 154 (_, [], _, _, _)
  refine ar_ret0 rfl ?_
  show aRun _ (aCall Mt _) _ 4 (_, [], _, _, _)
  refine ar_ldA rfl rfl ?_
  refine ar_get rfl (hs_eq (hs_ne (by decide) (hs_ne (by decide) (hs_eq (hs_ne (by decide) (hs_ne (by decide) (hs_eq (hs_eq (hs_eq (hs_eq (hr.at 69 (by decide) (by decide) rfl))))))))))) rfl ?_
  refine ar_if1t rfl (by decide) ?_
  refine ar_ret0 rfl ?_
  show aRun _ (aCall Mt _) _ 4 (_, [], _, _, _)
  refine ar_ldA rfl rfl ?_
  refine ar_get rfl (hs_eq (hs_ne (by decide) (hs_ne (by decide) (hs_eq (hs_ne (by decide) (hs_ne (by decide) (hs_eq (hs_eq (hs_eq (hs_eq (hr.at 69 (by decide) (by decide) rfl))))))))))) rfl ?_
  refine ar_if1t rfl (by decide) ?_
  refine ar_ret0 rfl ?_
  show aRun _ (aCall Mt _) _ 4 (_, [], _, _, _)
  refine ar_ldA rfl rfl ?_
  refine ar_inl (mc := 0) (ms := 0) rfl (rcv_of (hs_eq (hs_ne (by decide) (hs_ne (by decide) (hs_eq (hs_ne (by decide) (hs_ne (by decide) (hs_eq (hs_eq (hs_eq (hs_eq (hr.at 69 (by decide) (by decide) rfl)))))))))))) (Nat.le_of_ble_eq_true rfl) (Nat.le_of_ble_eq_true rfl) (by omega) (by omega) ?_
  refine ac_ink [some (.inr (.inr (some 69)))] mt_213 (Nat.le_of_ble_eq_true rfl) rfl ?_
  refine ar_ldA rfl rfl ?_
  refine ar_get rfl (hs_eq (hs_ne (by decide) (hs_ne (by decide) (hs_eq (hs_ne (by decide) (hs_ne (by decide) (hs_eq (hs_eq (hs_eq (hs_eq (hr.at 69 (by decide) (by decide) rfl))))))))))) rfl ?_
  refine ar_ldA rfl rfl ?_
  refine ar_get rfl (hs_eq (hs_ne (by decide) (hs_ne (by decide) (hs_eq (hs_ne (by decide) (hs_ne (by decide) (hs_eq (hs_eq (hs_eq (hs_eq (hr.at 69 (by decide) (by decide) rfl))))))))))) rfl ?_
  refine ar_if2t rfl (by decide) ?_
  refine ar_push rfl ?_
  refine ar_ret rfl rfl ?_
  show aRun _ (aCall Mt _) _ 8 (_, [_], _, _, _)
  refine ar_svIk [some (.inr (.inr (some 69))), some (.inl (-1))] rfl rfl ?_
  refine ar_ldA rfl rfl ?_
  refine ar_get rfl (hs_eq (hs_ne (by decide) (hs_ne (by decide) (hs_eq (hs_ne (by decide) (hs_ne (by decide) (hs_eq (hs_eq (hs_eq (hs_eq (hr.at 69 (by decide) (by decide) rfl))))))))))) rfl ?_
  refine ar_if1t rfl (by decide) ?_
  refine ar_ret0 rfl ?_
  show aRun _ (aCall Mt _) _ 4 (_, [], _, _, _)
  refine ar_ldA rfl rfl ?_
  refine ar_get rfl (hs_eq (hs_ne (by decide) (hs_ne (by decide) (hs_eq (hs_ne (by decide) (hs_ne (by decide) (hs_eq (hs_eq (hs_eq (hs_eq (hr.at 69 (by decide) (by decide) rfl))))))))))) rfl ?_
  refine ar_if1t rfl (by decide) ?_
  refine ar_ret0 rfl ?_
  show aRun _ (aCall Mt _) _ 4 (_, [], _, _, _)
  refine ar_ldA rfl rfl ?_
  refine ar_get rfl (hs_eq (hs_ne (by decide) (hs_ne (by decide) (hs_eq (hs_ne (by decide) (hs_ne (by decide) (hs_eq (hs_eq (hs_eq (hs_eq (hr.at 69 (by decide) (by decide) rfl))))))))))) rfl ?_
  refine ar_if1t rfl (by decide) ?_
  refine ar_ret0 rfl ?_
  show aRun _ (aCall Mt _) _ 27 (_, [], _, _, _)
  refine ar_ldA rfl rfl ?_
  refine ar_get rfl (hs_eq (hs_ne (by decide) (hs_ne (by decide) (hs_eq (hs_ne (by decide) (hs_ne (by decide) (hs_eq (hs_eq (hs_eq (hs_eq (hr.at 69 (by decide) (by decide) rfl))))))))))) rfl ?_
  refine ar_if1t rfl (by decide) ?_
  refine ar_ldA rfl rfl ?_
  refine ar_get rfl (hs_eq (hs_ne (by decide) (hs_ne (by decide) (hs_eq (hs_ne (by decide) (hs_ne (by decide) (hs_eq (hs_eq (hs_eq (hs_eq (hr.at 69 (by decide) (by decide) rfl))))))))))) rfl ?_
  refine ar_ldI rfl rfl ?_
  refine ar_ldA rfl rfl ?_
  refine ar_get rfl (hs_eq (hs_ne (by decide) (hs_ne (by decide) (hs_eq (hs_ne (by decide) (hs_ne (by decide) (hs_eq (hs_eq (hs_eq (hs_eq (hr.at 69 (by decide) (by decide) rfl))))))))))) rfl ?_
  refine ar_un rfl ?_
  refine ar_ast rfl (hs_ne (by decide) (hs_ne (by decide) (hs_ne (by decide) (hs_ne (by decide) (hs_ne (by decide) (hs_ne (by decide) (hs_ne (by decide) (hs_ne (by decide) (hs_ne (by decide) (hs_ne (by decide) (hr.at 87 (by decide) (by decide) rfl))))))))))) (by decide) (Nat.le_of_ble_eq_true rfl) ?_
  refine ar_ldA rfl rfl ?_
  refine ar_get rfl (hs_ne (by decide) (hs_eq (hs_ne (by decide) (hs_ne (by decide) (hs_eq (hs_ne (by decide) (hs_ne (by decide) (hs_eq (hs_eq (hs_eq (hs_eq (hr.at 69 (by decide) (by decide) rfl)))))))))))) rfl ?_
  refine ar_push rfl ?_
  refine ar_dup2 rfl rfl rfl ?_
  refine ar_ald rfl (hs_ne (by decide) (hs_ne (by decide) (hs_ne (by decide) (hs_ne (by decide) (hs_ne (by decide) (hs_ne (by decide) (hs_eq (hs_ne (by decide) (hs_ne (by decide) (hs_ne (by decide) (hs_ne (by decide) (hr.at 85 (by decide) (by decide) rfl)))))))))))) (by decide) rfl ?_
  refine ar_push rfl ?_
  refine ar_bink (z := 1) rfl (by decide) ?_
  refine ar_ast rfl (hs_ne (by decide) (hs_ne (by decide) (hs_ne (by decide) (hs_ne (by decide) (hs_ne (by decide) (hs_ne (by decide) (hs_eq (hs_ne (by decide) (hs_ne (by decide) (hs_ne (by decide) (hs_ne (by decide) (hr.at 85 (by decide) (by decide) rfl)))))))))))) (by decide) (Nat.le_of_ble_eq_true rfl) ?_
  refine ar_ret0 rfl ?_
  show aRun _ (aCall Mt _) _ 54 (_, [], _, _, _)
  refine ar_ldA rfl rfl ?_
  refine ar_get rfl (hs_ne (by decide) (hs_ne (by decide) (hs_eq (hs_ne (by decide) (hs_ne (by decide) (hs_eq (hs_ne (by decide) (hs_ne (by decide) (hs_eq (hs_eq (hs_eq (hs_eq (hr.at 69 (by decide) (by decide) rfl))))))))))))) rfl ?_
  refine ar_if1t rfl (by decide) ?_
  refine ar_ldA rfl rfl ?_
  refine ar_get rfl (hs_ne (by decide) (hs_ne (by decide) (hs_eq (hs_ne (by decide) (hs_ne (by decide) (hs_eq (hs_ne (by decide) (hs_ne (by decide) (hs_eq (hs_eq (hs_eq (hs_eq (hr.at 69 (by decide) (by decide) rfl))))))))))))) rfl ?_
  refine ar_if1t rfl (by decide) ?_
  refine ar_ldA rfl rfl ?_
  refine ar_push rfl ?_
  refine ar_put rfl (hs_ne (by decide) (hs_ne (by decide) (hs_eq (hs_ne (by decide) (hs_ne (by decide) (hs_eq (hs_ne (by decide) (hs_ne (by decide) (hs_eq (hs_eq (hs_eq (hs_eq (hr.at 69 (by decide) (by decide) rfl))))))))))))) (Nat.le_of_ble_eq_true rfl) rfl ?_
  refine ar_ldA rfl rfl ?_
  refine ar_get rfl (hs_eq (hs_ne (by decide) (hs_ne (by decide) (hs_eq (hs_ne (by decide) (hs_ne (by decide) (hs_eq (hs_ne (by decide) (hs_ne (by decide) (hs_eq (hs_eq (hs_eq (hs_eq (hr.at 69 (by decide) (by decide) rfl)))))))))))))) rfl ?_
  refine ar_if1f rfl (by decide) ?_
  refine ar_push rfl ?_
  refine ar_ldA rfl rfl ?_
  refine ar_get rfl (hs_eq (hs_ne (by decide) (hs_ne (by decide) (hs_eq (hs_ne (by decide) (hs_ne (by decide) (hs_eq (hs_ne (by decide) (hs_ne (by decide) (hs_eq (hs_eq (hs_eq (hs_eq (hr.at 69 (by decide) (by decide) rfl)))))))))))))) rfl ?_
  refine ar_bink (z := (-100)) rfl (by decide) ?_
  refine ar_ret rfl rfl ?_
  exact ⟨rfl, hJ _ _ _⟩
set_option maxRecDepth 20000 in
set_option maxHeartbeats 4000000 in
theorem p1_7_14 (J : aH → Nat → Nat → Prop) (hJ : ∀ h a b, J h a b) (kc ks : Nat) (hkc : 1000 ≤ kc) (hks : 100000 ≤ ks) : aPairI 0 69 131 227 [.inl 14] J hF kc ks := by
  refine ⟨0, 0, _, by omega, by omega, rfl, ?_⟩
  refine ac_ink [some (.inr (.inr (some 0))), some (.inl 14), none, none] mt_131 (Nat.le_of_ble_eq_true rfl) rfl ?_
  refine ar_ldA rfl rfl ?_
  refine ar_ldI rfl rfl ?_
  refine ar_inl (mc := 0) (ms := 0) rfl (rcv_of rfl) (Nat.le_of_ble_eq_true rfl) (Nat.le_of_ble_eq_true rfl) (by omega) (by omega) ?_
  refine ac_ink [some (.inr (.inr (some 0))), some (.inl 14)] mt_166 (Nat.le_of_ble_eq_true rfl) rfl ?_
  refine ar_ldI rfl rfl ?_
  refine ar_if1t rfl (by decide) ?_
  refine ar_ldI rfl rfl ?_
  refine ar_push rfl ?_
  refine ar_if2t rfl (by decide) ?_
  refine ar_ldA rfl rfl ?_
  refine ar_get rfl rfl rfl ?_
  refine ar_ldI rfl rfl ?_
  refine ar_push rfl ?_
  refine ar_bink (z := 4) rfl (by decide) ?_
  refine ar_inl (mc := 0) (ms := 0) rfl (rcv_of rfl) (Nat.le_of_ble_eq_true rfl) (Nat.le_of_ble_eq_true rfl) (by omega) (by omega) ?_
  refine ac_ink [some (.inr (.inr (some 15))), some (.inl 4)] mt_7 (Nat.le_of_ble_eq_true rfl) rfl ?_
  refine ar_ldI rfl rfl ?_
  refine ar_inl (mc := 0) (ms := 0) rfl rfl (Nat.le_of_ble_eq_true rfl) (Nat.le_of_ble_eq_true rfl) (by omega) (by omega) ?_
  refine ac_ink [some (.inl 4)] mt_175 (Nat.le_of_ble_eq_true rfl) rfl ?_
  refine ar_ldI rfl rfl ?_
  refine ar_push rfl ?_
  refine ar_push rfl ?_
  refine ar_callv rfl rfl (Nat.le_of_ble_eq_true rfl) (Nat.le_of_ble_eq_true rfl) rfl (sp_within _ _ _ _ _) ?_
  refine ar_ret rfl (bi_ret _) ?_
  show aRun _ (aCall Mt _) _ 4 (_, [_], _, _, _)
  refine ar_if1f rfl (bi_e0f (by decide)) ?_
  refine ar_ldA rfl rfl ?_
  refine ar_get rfl rfl rfl ?_
  refine ar_ldI rfl rfl ?_
  refine ar_aldA rfl rfl (by decide) rfl ?_
  refine ar_go rfl ?_
  refine ar_ret rfl rfl ?_
  show aRun _ (aCall Mt _) _ 36 (_, [_], _, _, _)
  refine ar_ret rfl rfl ?_
  show aRun _ (aCall Mt _) _ 5 (_, [_], _, _, _)
  refine ar_svAk [some (.inr (.inr (some 0))), some (.inl 14), some (.inr (.inr (some 31))), none] rfl rfl ?_
  refine ar_ldA rfl rfl ?_
  refine ar_nulS rfl ?_
  refine ar_ldA rfl rfl ?_
  refine ar_get rfl rfl rfl ?_
  refine ar_ldA rfl rfl ?_
  refine ar_inl (mc := 0) (ms := 0) rfl (rcv_of rfl) (Nat.le_of_ble_eq_true rfl) (Nat.le_of_ble_eq_true rfl) (by omega) (by omega) ?_
  refine ac_ink [some (.inr (.inr (some 5))), some (.inr (.inr (some 31))), none] mt_94 (Nat.le_of_ble_eq_true rfl) rfl ?_
  refine ar_ldA rfl rfl ?_
  refine ar_push rfl ?_
  refine ar_put rfl rfl (Nat.le_of_ble_eq_true rfl) rfl ?_
  refine ar_ldA rfl rfl ?_
  refine ar_push rfl ?_
  refine ar_put rfl (hs_eq rfl) (Nat.le_of_ble_eq_true rfl) rfl ?_
  refine ar_ldA rfl rfl ?_
  refine ar_push rfl ?_
  refine ar_put rfl (hs_eq (hs_eq rfl)) (Nat.le_of_ble_eq_true rfl) rfl ?_
  refine ar_ldA rfl rfl ?_
  refine ar_inl (mc := 0) (ms := 0) rfl (rcv_of (hs_eq (hs_eq (hs_eq rfl)))) (Nat.le_of_ble_eq_true rfl) (Nat.le_of_ble_eq_true rfl) (by omega) (by omega) ?_
  refine ac_ink [some (.inr (.inr (some 5))), none] mt_100 (Nat.le_of_ble_eq_true rfl) rfl ?_
  refine ar_ldA rfl rfl ?_
  refine ar_push rfl ?_
  refine ar_inl (mc := 0) (ms := 0) rfl (rcv_of (hs_eq (hs_eq (hs_eq rfl)))) (Nat.le_of_ble_eq_true rfl) (Nat.le_of_ble_eq_true rfl) (by omega) (by omega) ?_
  refine ac_ink [some (.inr (.inr (some 5))), some (.inl 0), none] mt_101 (Nat.le_of_ble_eq_true rfl) rfl ?_
  refine ar_ldA rfl rfl ?_
  refine ar_ldI rfl rfl ?_
  refine ar_inl (mc := 0) (ms := 0) rfl (rcv_of (hs_eq (hs_eq (hs_eq rfl)))) (Nat.le_of_ble_eq_true rfl) (Nat.le_of_ble_eq_true rfl) (by omega) (by omega) ?_
  refine ac_ink [some (.inr (.inr (some 5))), some (.inl 0), none] mt_102 (Nat.le_of_ble_eq_true rfl) rfl ?_
  refine ar_ldA rfl rfl ?_
  refine ar_ldI rfl rfl ?_
  refine ar_inl (mc := 0) (ms := 0) rfl (rcv_of (hs_eq (hs_eq (hs_eq rfl)))) (Nat.le_of_ble_eq_true rfl) (Nat.le_of_ble_eq_true rfl) (by omega) (by omega) ?_
  refine ac_ink [some (.inr (.inr (some 5))), some (.inl 0), none] mt_103 (Nat.le_of_ble_eq_true rfl) rfl ?_
  refine ar_ldA rfl rfl ?_
  refine ar_ldI rfl rfl ?_
  refine ar_inl (mc := 0) (ms := 0) rfl (rcv_of (hs_eq (hs_eq (hs_eq rfl)))) (Nat.le_of_ble_eq_true rfl) (Nat.le_of_ble_eq_true rfl) (by omega) (by omega) ?_
  refine ac_ink [some (.inr (.inr (some 5))), some (.inl 0), none, none] mt_104 (Nat.le_of_ble_eq_true rfl) rfl ?_
  refine ar_ldA rfl rfl ?_
  refine ar_ldI rfl rfl ?_
  refine ar_inl (mc := 0) (ms := 0) rfl (rcv_of (hs_eq (hs_eq (hs_eq rfl)))) (Nat.le_of_ble_eq_true rfl) (Nat.le_of_ble_eq_true rfl) (by omega) (by omega) ?_
  refine ac_ink [some (.inr (.inr (some 5))), some (.inl 0), none, none] mt_105 (Nat.le_of_ble_eq_true rfl) rfl ?_
  refine ar_ldA rfl rfl ?_
  refine ar_ldI rfl rfl ?_
  refine ar_inl (mc := 0) (ms := 0) rfl (rcv_of (hs_eq (hs_eq (hs_eq rfl)))) (Nat.le_of_ble_eq_true rfl) (Nat.le_of_ble_eq_true rfl) (by omega) (by omega) ?_
  refine ac_ink [some (.inr (.inr (some 5))), some (.inl 0), none] mt_106 (Nat.le_of_ble_eq_true rfl) rfl ?_
  refine ar_ldA rfl rfl ?_
  refine ar_inl (mc := 0) (ms := 0) rfl (rcv_of (hs_eq (hs_eq (hs_eq rfl)))) (Nat.le_of_ble_eq_true rfl) (Nat.le_of_ble_eq_true rfl) (by omega) (by omega) ?_
  refine ac_ink [some (.inr (.inr (some 5)))] mt_95 (Nat.le_of_ble_eq_true rfl) rfl ?_
  refine ar_ldA rfl rfl ?_
  refine ar_get rfl (hs_eq (hs_eq (hs_eq rfl))) rfl ?_
  refine ar_if1f rfl (by decide) ?_
  refine ar_ldA rfl rfl ?_
  refine ar_get rfl (hs_eq (hs_eq (hs_eq rfl))) rfl ?_
  refine ar_ldA rfl rfl ?_
  refine ar_get rfl (hs_eq (hs_eq (hs_eq rfl))) rfl ?_
  refine ar_if2t rfl (by decide) ?_
  refine ar_push rfl ?_
  refine ar_ret rfl rfl ?_
  show aRun _ (aCall Mt _) _ 4 (_, [_], _, _, _)
  refine ar_svIk [some (.inr (.inr (some 5))), some (.inl 0), some (.inl (-1))] rfl rfl ?_
  refine ar_ldI rfl rfl ?_
  refine ar_push rfl ?_
  refine ar_push rfl ?_
  refine ar_callv rfl rfl (Nat.le_of_ble_eq_true rfl) (Nat.le_of_ble_eq_true rfl) rfl (sp_within _ _ _ _ _) ?_
  refine ar_if1t rfl (bi_e0t (by decide)) ?_
  refine ar_ldI rfl rfl ?_
  refine ar_push rfl ?_
  refine ar_push rfl ?_
  refine ar_callv rfl rfl (Nat.le_of_ble_eq_true rfl) (Nat.le_of_ble_eq_true rfl) rfl (sp_within _ _ _ _ _) ?_
  refine ar_if1t rfl (bi_e0t (by decide)) ?_
  refine ar_ldI rfl rfl ?_
  refine ar_push rfl ?_
  refine ar_if2t rfl (by decide) ?_
  refine ar_ldA rfl rfl ?_
  refine ar_push rfl ?_
  refine ar_inl (mc := 0) (ms := 0) rfl (rcv_of (hs_eq (hs_eq (hs_eq rfl)))) (Nat.le_of_ble_eq_true rfl) (Nat.le_of_ble_eq_true rfl) (by omega) (by omega) ?_
  refine ac_ink [some (.inr (.inr (some 5))), some (.inl 40)] mt_96 (Nat.le_of_ble_eq_true rfl) rfl ?_
  refine ar_ldA rfl rfl ?_
  refine ar_inl (mc := 0) (ms := 0) rfl (rcv_of (hs_eq (hs_eq (hs_eq rfl)))) (Nat.le_of_ble_eq_true rfl) (Nat.le_of_ble_eq_true rfl) (by omega) (by omega) ?_
  refine ac_ink [some (.inr (.inr (some 5)))] mt_95 (Nat.le_of_ble_eq_true rfl) rfl ?_
  refine ar_ldA rfl rfl ?_
  refine ar_get rfl (hs_eq (hs_eq (hs_eq rfl))) rfl ?_
  refine ar_if1f rfl (by decide) ?_
  refine ar_ldA rfl rfl ?_
  refine ar_get rfl (hs_eq (hs_eq (hs_eq rfl))) rfl ?_
  refine ar_ldA rfl rfl ?_
  refine ar_get rfl (hs_eq (hs_eq (hs_eq rfl))) rfl ?_
  refine ar_if2t rfl (by decide) ?_
  refine ar_push rfl ?_
  refine ar_ret rfl rfl ?_
  show aRun _ (aCall Mt _) _ 4 (_, [_], _, _, _)
  refine ar_ldI rfl rfl ?_
  refine ar_if2f rfl (by decide) ?_
  refine ar_push rfl ?_
  refine ar_ret rfl rfl ?_
  show aRun _ (aCall Mt _) _ 88 (_, [_], _, _, _)
  refine ar_if1t rfl (by decide) ?_
  refine ar_ldA rfl rfl ?_
  refine ar_push rfl ?_
  refine ar_inl (mc := 0) (ms := 0) rfl (rcv_of (hs_eq (hs_eq (hs_eq rfl)))) (Nat.le_of_ble_eq_true rfl) (Nat.le_of_ble_eq_true rfl) (by omega) (by omega) ?_
  refine ac_ink [some (.inr (.inr (some 5))), some (.inl 33)] mt_96 (Nat.le_of_ble_eq_true rfl) rfl ?_
  refine ar_ldA rfl rfl ?_
  refine ar_inl (mc := 0) (ms := 0) rfl (rcv_of (hs_eq (hs_eq (hs_eq rfl)))) (Nat.le_of_ble_eq_true rfl) (Nat.le_of_ble_eq_true rfl) (by omega) (by omega) ?_
  refine ac_ink [some (.inr (.inr (some 5)))] mt_95 (Nat.le_of_ble_eq_true rfl) rfl ?_
  refine ar_ldA rfl rfl ?_
  refine ar_get rfl (hs_eq (hs_eq (hs_eq rfl))) rfl ?_
  refine ar_if1f rfl (by decide) ?_
  refine ar_ldA rfl rfl ?_
  refine ar_get rfl (hs_eq (hs_eq (hs_eq rfl))) rfl ?_
  refine ar_ldA rfl rfl ?_
  refine ar_get rfl (hs_eq (hs_eq (hs_eq rfl))) rfl ?_
  refine ar_if2t rfl (by decide) ?_
  refine ar_push rfl ?_
  refine ar_ret rfl rfl ?_
  show aRun _ (aCall Mt _) _ 4 (_, [_], _, _, _)
  refine ar_ldI rfl rfl ?_
  refine ar_if2f rfl (by decide) ?_
  refine ar_push rfl ?_
  refine ar_ret rfl rfl ?_
  show aRun _ (aCall Mt _) _ 120 (_, [_], _, _, _)
  refine ar_if1t rfl (by decide) ?_
  refine ar_ldA rfl rfl ?_
  refine ar_push rfl ?_
  refine ar_inl (mc := 0) (ms := 0) rfl (rcv_of (hs_eq (hs_eq (hs_eq rfl)))) (Nat.le_of_ble_eq_true rfl) (Nat.le_of_ble_eq_true rfl) (by omega) (by omega) ?_
  refine ac_ink [some (.inr (.inr (some 5))), some (.inl 45)] mt_96 (Nat.le_of_ble_eq_true rfl) rfl ?_
  refine ar_ldA rfl rfl ?_
  refine ar_inl (mc := 0) (ms := 0) rfl (rcv_of (hs_eq (hs_eq (hs_eq rfl)))) (Nat.le_of_ble_eq_true rfl) (Nat.le_of_ble_eq_true rfl) (by omega) (by omega) ?_
  refine ac_ink [some (.inr (.inr (some 5)))] mt_95 (Nat.le_of_ble_eq_true rfl) rfl ?_
  refine ar_ldA rfl rfl ?_
  refine ar_get rfl (hs_eq (hs_eq (hs_eq rfl))) rfl ?_
  refine ar_if1f rfl (by decide) ?_
  refine ar_ldA rfl rfl ?_
  refine ar_get rfl (hs_eq (hs_eq (hs_eq rfl))) rfl ?_
  refine ar_ldA rfl rfl ?_
  refine ar_get rfl (hs_eq (hs_eq (hs_eq rfl))) rfl ?_
  refine ar_if2t rfl (by decide) ?_
  refine ar_push rfl ?_
  refine ar_ret rfl rfl ?_
  show aRun _ (aCall Mt _) _ 4 (_, [_], _, _, _)
  refine ar_ldI rfl rfl ?_
  refine ar_if2f rfl (by decide) ?_
  refine ar_push rfl ?_
  refine ar_ret rfl rfl ?_
  show aRun _ (aCall Mt _) _ 145 (_, [_], _, _, _)
  refine ar_if1t rfl (by decide) ?_
  refine ar_ldA rfl rfl ?_
  refine ar_inl (mc := 0) (ms := 0) rfl (rcv_of (hs_eq (hs_eq (hs_eq rfl)))) (Nat.le_of_ble_eq_true rfl) (Nat.le_of_ble_eq_true rfl) (by omega) (by omega) ?_
  refine ac_ink [some (.inr (.inr (some 5)))] mt_99 (Nat.le_of_ble_eq_true rfl) rfl ?_
  refine ar_ldA rfl rfl ?_
  refine ar_get rfl (hs_eq (hs_eq (hs_eq rfl))) rfl ?_
  refine ar_push rfl ?_
  refine ar_if2f rfl (by decide) ?_
  refine ar_ldA rfl rfl ?_
  refine ar_ldA rfl rfl ?_
  refine ar_get rfl (hs_eq (hs_eq (hs_eq rfl))) rfl ?_
  refine ar_put rfl (hs_eq (hs_eq (hs_eq rfl))) (Nat.le_of_ble_eq_true rfl) rfl ?_
  refine ar_ret0 rfl ?_
  show aRun _ (aCall Mt _) _ 168 (_, [], _, _, _)
  refine ar_ret0 rfl ?_
  show aRun _ (aCall Mt _) _ 5 (_, [], _, _, _)
  refine ar_push rfl ?_
  refine ar_svIk [some (.inr (.inr (some 5))), some (.inl 0), some (.inl 0), none] rfl rfl ?_
  refine ar_ldI rfl rfl ?_
  refine ar_ldA rfl rfl ?_
  refine ar_get rfl (hs_eq (hs_eq (hs_eq (hs_eq rfl)))) rfl ?_
  refine ar_if2t rfl (by decide) ?_
  refine ar_ret0 rfl ?_
  show aRun _ (aCall Mt _) _ 5 (_, [], _, _, _)
  refine ar_push rfl ?_
  refine ar_svIk [some (.inr (.inr (some 5))), some (.inl 0), some (.inl 0), none] rfl rfl ?_
  refine ar_ldI rfl rfl ?_
  refine ar_ldA rfl rfl ?_
  refine ar_get rfl (hs_eq (hs_eq (hs_eq (hs_eq rfl)))) rfl ?_
  refine ar_if2t rfl (by decide) ?_
  refine ar_ret0 rfl ?_
  show aRun _ (aCall Mt _) _ 5 (_, [], _, _, _)
  refine ar_ldA rfl rfl ?_
  refine ar_push rfl ?_
  refine ar_inl (mc := 0) (ms := 0) rfl (rcv_of (hs_eq (hs_eq (hs_eq (hs_eq rfl))))) (Nat.le_of_ble_eq_true rfl) (Nat.le_of_ble_eq_true rfl) (by omega) (by omega) ?_
  refine ac_ink [some (.inr (.inr (some 5))), some (.inl 60)] mt_97 (Nat.le_of_ble_eq_true rfl) rfl ?_
  refine ar_ldA rfl rfl ?_
  refine ar_get rfl (hs_eq (hs_eq (hs_eq (hs_eq rfl)))) rfl ?_
  refine ar_push rfl ?_
  refine ar_if2t rfl (by decide) ?_
  refine ar_push rfl ?_
  refine ar_ret rfl rfl ?_
  show aRun _ (aCall Mt _) _ 11 (_, [_], _, _, _)
  refine ar_if1t rfl (by decide) ?_
  refine ar_ldA rfl rfl ?_
  refine ar_push rfl ?_
  refine ar_inl (mc := 0) (ms := 0) rfl (rcv_of (hs_eq (hs_eq (hs_eq (hs_eq rfl))))) (Nat.le_of_ble_eq_true rfl) (Nat.le_of_ble_eq_true rfl) (by omega) (by omega) ?_
  refine ac_ink [some (.inr (.inr (some 5))), some (.inl 61)] mt_97 (Nat.le_of_ble_eq_true rfl) rfl ?_
  refine ar_ldA rfl rfl ?_
  refine ar_get rfl (hs_eq (hs_eq (hs_eq (hs_eq rfl)))) rfl ?_
  refine ar_push rfl ?_
  refine ar_if2t rfl (by decide) ?_
  refine ar_push rfl ?_
  refine ar_ret rfl rfl ?_
  show aRun _ (aCall Mt _) _ 25 (_, [_], _, _, _)
  refine ar_if1t rfl (by decide) ?_
  refine ar_ldA rfl rfl ?_
  refine ar_push rfl ?_
  refine ar_inl (mc := 0) (ms := 0) rfl (rcv_of (hs_eq (hs_eq (hs_eq (hs_eq rfl))))) (Nat.le_of_ble_eq_true rfl) (Nat.le_of_ble_eq_true rfl) (by omega) (by omega) ?_
  refine ac_ink [some (.inr (.inr (some 5))), some (.inl 62)] mt_97 (Nat.le_of_ble_eq_true rfl) rfl ?_
  refine ar_ldA rfl rfl ?_
  refine ar_get rfl (hs_eq (hs_eq (hs_eq (hs_eq rfl)))) rfl ?_
  refine ar_push rfl ?_
  refine ar_if2t rfl (by decide) ?_
  refine ar_push rfl ?_
  refine ar_ret rfl rfl ?_
  show aRun _ (aCall Mt _) _ 39 (_, [_], _, _, _)
  refine ar_if1t rfl (by decide) ?_
  refine ar_push rfl ?_
  refine ar_svIk [some (.inr (.inr (some 5))), some (.inl 0), some (.inl 15)] rfl rfl ?_
  refine ar_ldI rfl rfl ?_
  refine ar_push rfl ?_
  refine ar_if2f rfl (by decide) ?_
  refine ar_ret0 rfl ?_
  show aRun _ (aCall Mt _) _ 5 (_, [], _, _, _)
  refine ar_push rfl ?_
  refine ar_svIk [some (.inr (.inr (some 5))), some (.inl 0), some (.inl 0)] rfl rfl ?_
  refine ar_ldI rfl rfl ?_
  refine ar_ldA rfl rfl ?_
  refine ar_get rfl (hs_eq (hs_eq (hs_eq (hs_eq rfl)))) rfl ?_
  refine ar_if2t rfl (by decide) ?_
  refine ar_ret0 rfl ?_
  show aRun _ (aCall Mt _) _ 5 (_, [], _, _, _)
  refine ar_push rfl ?_
  refine ar_svIk [some (.inr (.inr (some 5))), some (.inl 0), some (.inl 0)] rfl rfl ?_
  refine ar_ldI rfl rfl ?_
  refine ar_ldA rfl rfl ?_
  refine ar_get rfl (hs_eq (hs_eq (hs_eq (hs_eq rfl)))) rfl ?_
  refine ar_if2t rfl (by decide) ?_
  refine ar_ret0 rfl ?_
  show aRun _ (aCall Mt _) _ 5 (_, [], _, _, _)
  refine ar_ldA rfl rfl ?_
  refine ar_push rfl ?_
  refine ar_inl (mc := 0) (ms := 0) rfl (rcv_of (hs_eq (hs_eq (hs_eq (hs_eq rfl))))) (Nat.le_of_ble_eq_true rfl) (Nat.le_of_ble_eq_true rfl) (by omega) (by omega) ?_
  refine ac_ink [some (.inr (.inr (some 5))), some (.inl 63)] mt_97 (Nat.le_of_ble_eq_true rfl) rfl ?_
  refine ar_ldA rfl rfl ?_
  refine ar_get rfl (hs_eq (hs_eq (hs_eq (hs_eq rfl)))) rfl ?_
  refine ar_push rfl ?_
  refine ar_if2t rfl (by decide) ?_
  refine ar_push rfl ?_
  refine ar_ret rfl rfl ?_
  show aRun _ (aCall Mt _) _ 11 (_, [_], _, _, _)
  refine ar_if1f rfl (by decide) ?_
  refine ar_ldA rfl rfl ?_
  refine ar_push rfl ?_
  refine ar_push rfl ?_
  refine ar_inl (mc := 0) (ms := 0) rfl (rcv_of (hs_eq (hs_eq (hs_eq (hs_eq rfl))))) (Nat.le_of_ble_eq_true rfl) (Nat.le_of_ble_eq_true rfl) (by omega) (by omega) ?_
  refine ac_ink [some (.inr (.inr (some 5))), some (.inl 15), some (.inl 0)] mt_98 (Nat.le_of_ble_eq_true rfl) rfl ?_
  refine ar_ldA rfl rfl ?_
  refine ar_get rfl (hs_eq (hs_eq (hs_eq (hs_eq rfl)))) rfl ?_
  refine ar_ldA rfl rfl ?_
  refine ar_get rfl (hs_eq (hs_eq (hs_eq (hs_eq rfl)))) rfl ?_
  refine ar_len rfl (hs_ne (by decide) (hs_ne (by decide) (hs_ne (by decide) (hs_ne (by decide) rfl)))) ?_
  refine ar_if2t rfl (by decide) ?_
  refine ar_ldA rfl rfl ?_
  refine ar_get rfl (hs_eq (hs_eq (hs_eq (hs_eq rfl)))) rfl ?_
  refine ar_ldA rfl rfl ?_
  refine ar_get rfl (hs_eq (hs_eq (hs_eq (hs_eq rfl)))) rfl ?_
  refine ar_ldI rfl rfl ?_
  refine ar_ldI rfl rfl ?_
  refine ar_inl (mc := 0) (ms := 0) rfl rfl (Nat.le_of_ble_eq_true rfl) (Nat.le_of_ble_eq_true rfl) (by omega) (by omega) ?_
  refine ac_ink [some (.inl 15), some (.inl 0)] mt_111 (Nat.le_of_ble_eq_true rfl) rfl ?_
  refine ar_ldI rfl rfl ?_
  refine ar_push rfl ?_
  refine ar_bink (z := 0) rfl (by decide) ?_
  refine ar_ldI rfl rfl ?_
  refine ar_bink (z := 15) rfl (by decide) ?_
  refine ar_ret rfl rfl ?_
  show aRun _ (aCall Mt _) _ 26 (_, [_, _, _], _, _, _)
  refine ar_ast rfl (hs_ne (by decide) (hs_ne (by decide) (hs_ne (by decide) (hs_ne (by decide) rfl)))) (by decide) (Nat.le_of_ble_eq_true rfl) ?_
  refine ar_ldA rfl rfl ?_
  refine ar_dup rfl rfl ?_
  refine ar_get rfl (hs_ne (by decide) (hs_eq (hs_eq (hs_eq (hs_eq rfl))))) rfl ?_
  refine ar_push rfl ?_
  refine ar_bink (z := 1) rfl (by decide) ?_
  refine ar_put rfl (hs_ne (by decide) (hs_eq (hs_eq (hs_eq (hs_eq rfl))))) (Nat.le_of_ble_eq_true rfl) rfl ?_
  refine ar_ret0 rfl ?_
  show aRun _ (aCall Mt _) _ 21 (_, [], _, _, _)
  refine ar_ret0 rfl ?_
  show aRun _ (aCall Mt _) _ 19 (_, [], _, _, _)
  refine ar_push rfl ?_
  refine ar_svIk [some (.inr (.inr (some 5))), some (.inr (.inr (some 31))), some (.inl 0)] rfl rfl ?_
  refine ar_ldI rfl rfl ?_
  refine ar_ldA rfl rfl ?_
  refine ar_get rfl (hs_eq (hs_ne (by decide) (hs_eq (hs_eq (hs_eq (hs_eq rfl)))))) rfl ?_
  refine ar_if2t rfl (by decide) ?_
  refine ar_ldA rfl rfl ?_
  refine ar_get rfl (hs_eq (hs_ne (by decide) (hs_eq (hs_eq (hs_eq (hs_eq rfl)))))) rfl ?_
  refine ar_push rfl ?_
  refine ar_if2t rfl (by decide) ?_
  refine ar_ldA rfl rfl ?_
  refine ar_get rfl (hs_eq (hs_ne (by decide) (hs_eq (hs_eq (hs_eq (hs_eq rfl)))))) rfl ?_
  refine ar_push rfl ?_
  refine ar_if2t rfl (by decide) ?_
  refine ar_ldA rfl rfl ?_
  refine ar_push rfl ?_
  refine ar_put rfl (hs_eq (hs_ne (by decide) (hs_eq (hs_eq (hs_eq (hs_eq rfl)))))) (Nat.le_of_ble_eq_true rfl) rfl ?_
  refine ar_ldA rfl rfl ?_
  refine ar_get rfl (hs_eq (hs_eq (hs_ne (by decide) (hs_eq (hs_eq (hs_eq (hs_eq rfl))))))) rfl ?_
  refine ar_ret rfl rfl ?_
  show aRun _ (aCall Mt _) _ 20 (_, [_], _, _, _)
  refine ar_svIk [some (.inr (.inr (some 0))), some (.inl 14), some (.inr (.inr (some 31))), some (.inl 0)] rfl rfl ?_
  refine ar_ldI rfl rfl ?_
  refine ar_push rfl ?_
  refine ar_if2f rfl (by decide) ?_
  refine ar_push rfl ?_
  refine ar_ldI rfl rfl ?_
  refine ar_bink (z := (-100)) rfl (by decide) ?_
  refine ar_ret rfl rfl ?_
  refine ⟨_, 0, 0, _, rfl, Nat.zero_le _, Nat.zero_le _, (hs_ne (by decide) (hs_ne (by decide) (hs_ne (by decide) (hs_ne (by decide) (hs_ne (by decide) (hs_ne (by decide) (hs_ne (by decide) rfl))))))), ?_⟩
  refine rgen (((((((rFr_F.sets (by decide)).sets (by decide)).sets (by decide)).sets (by decide)).sets (by decide)).sets (by decide)).sets (by decide)) (fun g hr => ?_)
  refine ac_ink [some (.inr (.inr (some 69))), some (.inl 14), none, none] mt_227 (Nat.le_of_ble_eq_true rfl) rfl ?_
  refine ar_ldI rfl rfl ?_
  refine ar_push rfl ?_
  refine ar_push rfl ?_
  refine ar_callv rfl rfl (Nat.le_of_ble_eq_true rfl) (Nat.le_of_ble_eq_true rfl) rfl (sp_in _ _ _ _ _) ?_
  refine ar_if1f rfl (bi_n0f (by decide)) ?_
  refine ar_ldI rfl rfl ?_
  refine ar_push rfl ?_
  refine ar_push rfl ?_
  refine ar_callv rfl rfl (Nat.le_of_ble_eq_true rfl) (Nat.le_of_ble_eq_true rfl) rfl (sp_in _ _ _ _ _) ?_
  refine ar_if1t rfl (bi_n0t (by decide)) ?_
  refine ar_ldA rfl rfl ?_
  refine ar_push rfl ?_
  refine ar_put rfl (hr.at 69 (by decide) (by decide) rfl) (Nat.le_of_ble_eq_true rfl) rfl ?_
  refine ar_ldA rfl rfl ?_
  refine ar_push rfl ?_
  refine ar_put rfl (hs_eq (hr.at 69 (by decide) (by decide) rfl)) (Nat.le_of_ble_eq_true rfl) rfl ?_
  refine ar_ldA rfl rfl ?_
  refine ar_push rfl ?_
  refine ar_put rfl (hs_eq (hs_eq (hr.at 69 (by decide) (by decide) rfl))) (Nat.le_of_ble_eq_true rfl) rfl ?_
  refine ar_ldA rfl rfl ?_
  refine ar_push rfl ?_
  refine ar_put rfl (hs_eq (hs_eq (hs_eq (hr.at 69 (by decide) (by decide) rfl)))) (Nat.le_of_ble_eq_true rfl) rfl ?_
  refine ar_ldA rfl rfl ?_
  refine ar_get rfl (hs_eq (hs_eq (hs_eq (hs_eq (hr.at 69 (by decide) (by decide) rfl))))) rfl ?_
  refine ar_push rfl ?_
  refine ar_push rfl ?_
  refine ar_ast rfl (hs_ne (by decide) (hs_ne (by decide) (hs_ne (by decide) (hs_ne (by decide) (hr.at 85 (by decide) (by decide) rfl))))) (by decide) (Nat.le_of_ble_eq_true rfl) ?_
  refine ar_ldA rfl rfl ?_
  refine ar_inl (mc := 0) (ms := 0) rfl (rcv_of (hs_ne (by decide) (hs_eq (hs_eq (hs_eq (hs_eq (hr.at 69 (by decide) (by decide) rfl))))))) (Nat.le_of_ble_eq_true rfl) (Nat.le_of_ble_eq_true rfl) (by omega) (by omega) ?_
  refine ac_ink [some (.inr (.inr (some 69))), none] mt_225 (Nat.le_of_ble_eq_true rfl) rfl ?_
  refine ar_push rfl ?_
  refine ar_ldA rfl rfl ?_
  refine ar_get rfl (hs_ne (by decide) (hs_eq (hs_eq (hs_eq (hs_eq (hr.at 69 (by decide) (by decide) rfl)))))) rfl ?_
  refine ar_push rfl ?_
  refine ar_ald rfl (hs_eq (hs_ne (by decide) (hs_ne (by decide) (hs_ne (by decide) (hs_ne (by decide) (hr.at 85 (by decide) (by decide) rfl)))))) (by decide) rfl ?_
  refine ar_bink (z := 671) rfl (by decide) ?_
  refine ar_svIk [some (.inr (.inr (some 69))), some (.inl 671)] rfl rfl ?_
  refine ar_ldA rfl rfl ?_
  refine ar_get rfl (hs_ne (by decide) (hs_eq (hs_eq (hs_eq (hs_eq (hr.at 69 (by decide) (by decide) rfl)))))) rfl ?_
  refine ar_ldI rfl rfl ?_
  refine ar_ldA rfl rfl ?_
  refine ar_get rfl (hs_ne (by decide) (hs_eq (hs_eq (hs_eq (hs_eq (hr.at 69 (by decide) (by decide) rfl)))))) rfl ?_
  refine ar_un rfl ?_
  refine ar_ast rfl (hs_ne (by decide) (hs_ne (by decide) (hs_ne (by decide) (hs_ne (by decide) (hs_ne (by decide) (hr.at 86 (by decide) (by decide) rfl)))))) (by decide) (Nat.le_of_ble_eq_true rfl) ?_
  refine ar_ldA rfl rfl ?_
  refine ar_inl (mc := 0) (ms := 0) rfl (rcv_of (hs_ne (by decide) (hs_ne (by decide) (hs_eq (hs_eq (hs_eq (hs_eq (hr.at 69 (by decide) (by decide) rfl)))))))) (Nat.le_of_ble_eq_true rfl) (Nat.le_of_ble_eq_true rfl) (by omega) (by omega) ?_
  refine ac_ink [some (.inr (.inr (some 69)))] mt_224 (Nat.le_of_ble_eq_true rfl) rfl ?_
  refine ar_ldA rfl rfl ?_
  refine ar_inl (mc := 0) (ms := 0) rfl (rcv_of (hs_ne (by decide) (hs_ne (by decide) (hs_eq (hs_eq (hs_eq (hs_eq (hr.at 69 (by decide) (by decide) rfl)))))))) (Nat.le_of_ble_eq_true rfl) (Nat.le_of_ble_eq_true rfl) (by omega) (by omega) ?_
  refine ac_ink [some (.inr (.inr (some 69)))] mt_223 (Nat.le_of_ble_eq_true rfl) rfl ?_
  refine ar_ldA rfl rfl ?_
  refine ar_inl (mc := 0) (ms := 0) rfl (rcv_of (hs_ne (by decide) (hs_ne (by decide) (hs_eq (hs_eq (hs_eq (hs_eq (hr.at 69 (by decide) (by decide) rfl)))))))) (Nat.le_of_ble_eq_true rfl) (Nat.le_of_ble_eq_true rfl) (by omega) (by omega) ?_
  refine ac_ink [some (.inr (.inr (some 69))), none] mt_222 (Nat.le_of_ble_eq_true rfl) rfl ?_
  refine ar_ldA rfl rfl ?_
  refine ar_inl (mc := 0) (ms := 0) rfl (rcv_of (hs_ne (by decide) (hs_ne (by decide) (hs_eq (hs_eq (hs_eq (hs_eq (hr.at 69 (by decide) (by decide) rfl)))))))) (Nat.le_of_ble_eq_true rfl) (Nat.le_of_ble_eq_true rfl) (by omega) (by omega) ?_
  refine ac_ink [some (.inr (.inr (some 69))), none] mt_221 (Nat.le_of_ble_eq_true rfl) rfl ?_
  refine ar_ldA rfl rfl ?_
  refine ar_inl (mc := 0) (ms := 0) rfl (rcv_of (hs_ne (by decide) (hs_ne (by decide) (hs_eq (hs_eq (hs_eq (hs_eq (hr.at 69 (by decide) (by decide) rfl)))))))) (Nat.le_of_ble_eq_true rfl) (Nat.le_of_ble_eq_true rfl) (by omega) (by omega) ?_
  refine ac_ink [some (.inr (.inr (some 69))), none] mt_220 (Nat.le_of_ble_eq_true rfl) rfl ?_
  refine ar_ldA rfl rfl ?_
  refine ar_inl (mc := 0) (ms := 0) rfl (rcv_of (hs_ne (by decide) (hs_ne (by decide) (hs_eq (hs_eq (hs_eq (hs_eq (hr.at 69 (by decide) (by decide) rfl)))))))) (Nat.le_of_ble_eq_true rfl) (Nat.le_of_ble_eq_true rfl) (by omega) (by omega) ?_
  refine ac_ink [some (.inr (.inr (some 69))), none] mt_219 (Nat.le_of_ble_eq_true rfl) rfl ?_
  refine ar_ldA rfl rfl ?_
  refine ar_inl (mc := 0) (ms := 0) rfl (rcv_of (hs_ne (by decide) (hs_ne (by decide) (hs_eq (hs_eq (hs_eq (hs_eq (hr.at 69 (by decide) (by decide) rfl)))))))) (Nat.le_of_ble_eq_true rfl) (Nat.le_of_ble_eq_true rfl) (by omega) (by omega) ?_
  refine ac_ink [some (.inr (.inr (some 69)))] mt_213 (Nat.le_of_ble_eq_true rfl) rfl ?_
  refine ar_ldA rfl rfl ?_
  refine ar_get rfl (hs_ne (by decide) (hs_ne (by decide) (hs_eq (hs_eq (hs_eq (hs_eq (hr.at 69 (by decide) (by decide) rfl))))))) rfl ?_
  refine ar_ldA rfl rfl ?_
  refine ar_get rfl (hs_ne (by decide) (hs_ne (by decide) (hs_eq (hs_eq (hs_eq (hs_eq (hr.at 69 (by decide) (by decide) rfl))))))) rfl ?_
  refine ar_if2t rfl (by decide) ?_
  refine ar_push rfl ?_
  refine ar_ret rfl rfl ?_
  show aRun _ (aCall Mt _) _ 4 (_, [_], _, _, _)
  refine ar_svIk [some (.inr (.inr (some 69))), some (.inl (-1))] rfl rfl ?_
  refine ar_ldI rfl rfl ?_
  refine ar_inl (mc := 0) (ms := 0) rfl rfl (Nat.le_of_ble_eq_true rfl) (Nat.le_of_ble_eq_true rfl) (by omega) (by omega) ?_
  refine ac_ink [some (.inl (-1))] mt_216 (Nat.le_of_ble_eq_true rfl) rfl ?_
  refine ar_ldI rfl rfl ?_
  refine ar_tabO rfl (by decide) ?_
  refine ar_push rfl ?_
  refine ar_ret rfl rfl ?_
  show aRun _ (aCall Mt _) _ 9 (_, [_], _, _, _)
  refine ar_if1t rfl (by decide) ?_
  refine ar_ldI rfl rfl ?_
  refine ar_push rfl ?_
  refine ar_if2f rfl (by decide) ?_
  refine ar_ldI rfl rfl ?_
  refine ar_push rfl ?_
  refine ar_if2t rfl (by decide) ?_
  refine ar_ldI rfl rfl ?_
  refine ar_push rfl ?_
  refine ar_if2t rfl (by decide) ?_
  refine ar_ldA rfl rfl ?_
  refine ar_inl (mc := 0) (ms := 0) rfl (rcv_of (hs_ne (by decide) (hs_ne (by decide) (hs_eq (hs_eq (hs_eq (hs_eq (hr.at 69 (by decide) (by decide) rfl)))))))) (Nat.le_of_ble_eq_true rfl) (Nat.le_of_ble_eq_true rfl) (by omega) (by omega) ?_
  refine ac_ink [some (.inr (.inr (some 69))), none, none] mt_218 (Nat.le_of_ble_eq_true rfl) rfl ?_
  refine ar_push rfl ?_
  refine ar_svIk [some (.inr (.inr (some 69))), some (.inl 0), none] rfl rfl ?_
  refine ar_push rfl ?_
  refine ar_svIk [some (.inr (.inr (some 69))), some (.inl 0), some (.inl 0)] rfl rfl ?_
  refine ar_ldI rfl rfl ?_
  refine ar_push rfl ?_
  refine ar_if2f rfl (by decide) ?_
  refine ar_ldA rfl rfl ?_
  refine ar_inl (mc := 0) (ms := 0) rfl (rcv_of (hs_ne (by decide) (hs_ne (by decide) (hs_eq (hs_eq (hs_eq (hs_eq (hr.at 69 (by decide) (by decide) rfl)))))))) (Nat.le_of_ble_eq_true rfl) (Nat.le_of_ble_eq_true rfl) (by omega) (by omega) ?_
  refine ac_ink [some (.inr (.inr (some 69)))] mt_213 (Nat.le_of_ble_eq_true rfl) rfl ?_
  refine ar_ldA rfl rfl ?_
  refine ar_get rfl (hs_ne (by decide) (hs_ne (by decide) (hs_eq (hs_eq (hs_eq (hs_eq (hr.at 69 (by decide) (by decide) rfl))))))) rfl ?_
  refine ar_ldA rfl rfl ?_
  refine ar_get rfl (hs_ne (by decide) (hs_ne (by decide) (hs_eq (hs_eq (hs_eq (hs_eq (hr.at 69 (by decide) (by decide) rfl))))))) rfl ?_
  refine ar_if2t rfl (by decide) ?_
  refine ar_push rfl ?_
  refine ar_ret rfl rfl ?_
  show aRun _ (aCall Mt _) _ 14 (_, [_], _, _, _)
  refine ar_push rfl ?_
  refine ar_push rfl ?_
  refine ar_callv rfl rfl (Nat.le_of_ble_eq_true rfl) (Nat.le_of_ble_eq_true rfl) rfl (sp_in _ _ _ _ _) ?_
  refine ar_if1t rfl (bi_e0t (by decide)) ?_
  refine ar_ldI rfl rfl ?_
  refine ar_if1t rfl (by decide) ?_
  refine ar_ldA rfl rfl ?_
  refine ar_inl (mc := 0) (ms := 0) rfl (rcv_of (hs_ne (by decide) (hs_ne (by decide) (hs_eq (hs_eq (hs_eq (hs_eq (hr.at 69 (by decide) (by decide) rfl)))))))) (Nat.le_of_ble_eq_true rfl) (Nat.le_of_ble_eq_true rfl) (by omega) (by omega) ?_
  refine ac_ink [some (.inr (.inr (some 69)))] mt_214 (Nat.le_of_ble_eq_true rfl) rfl ?_
  refine ar_ldA rfl rfl ?_
  refine ar_get rfl (hs_ne (by decide) (hs_ne (by decide) (hs_eq (hs_eq (hs_eq (hs_eq (hr.at 69 (by decide) (by decide) rfl))))))) rfl ?_
  refine ar_if1f rfl (by decide) ?_
  refine ar_ldA rfl rfl ?_
  refine ar_ldA rfl rfl ?_
  refine ar_get rfl (hs_ne (by decide) (hs_ne (by decide) (hs_eq (hs_eq (hs_eq (hs_eq (hr.at 69 (by decide) (by decide) rfl))))))) rfl ?_
  refine ar_put rfl (hs_ne (by decide) (hs_ne (by decide) (hs_eq (hs_eq (hs_eq (hs_eq (hr.at 69 (by decide) (by decide) rfl))))))) (Nat.le_of_ble_eq_true rfl) rfl ?_
  refine ar_ret0 rfl ?_
  show aRun _ (aCall Mt _) _ 75 (_, [], _, _, _)
  refine ar_ldA rfl rfl ?_
  refine ar_push rfl ?_
  refine ar_ldI rfl rfl ?_
  refine ar_inl (mc := 0) (ms := 0) rfl (rcv_of (hs_eq (hs_ne (by decide) (hs_ne (by decide) (hs_eq (hs_eq (hs_eq (hs_eq (hr.at 69 (by decide) (by decide) rfl))))))))) (Nat.le_of_ble_eq_true rfl) (Nat.le_of_ble_eq_true rfl) (by omega) (by omega) ?_
  refine ac_ink [some (.inr (.inr (some 69))), some (.inl 1), some (.inl 0)] mt_215 (Nat.le_of_ble_eq_true rfl) rfl ?_
  refine ar_ldA rfl rfl ?_
  refine ar_get rfl (hs_eq (hs_ne (by decide) (hs_ne (by decide) (hs_eq (hs_eq (hs_eq (hs_eq (hr.at 69 (by decide) (by decide) rfl)))))))) rfl ?_
  refine ar_push rfl ?_
  refine ar_ldA rfl rfl ?_
  refine ar_get rfl (hs_eq (hs_ne (by decide) (hs_ne (by decide) (hs_eq (hs_eq (hs_eq (hs_eq (hr.at 69 (by decide) (by decide) rfl)))))))) rfl ?_
  refine ar_bink (z := 1430) rfl (by decide) ?_
  refine ar_ldI rfl rfl ?_
  refine ar_un rfl ?_
  refine ar_ast rfl (hs_ne (by decide) (hs_ne (by decide) (hs_ne (by decide) (hs_ne (by decide) (hs_ne (by decide) (hs_ne (by decide) (hs_ne (by decide) (hr.at 83 (by decide) (by decide) rfl)))))))) (by decide) (Nat.le_of_ble_eq_true rfl) ?_
  refine ar_ldA rfl rfl ?_
  refine ar_get rfl (hs_ne (by decide) (hs_eq (hs_ne (by decide) (hs_ne (by decide) (hs_eq (hs_eq (hs_eq (hs_eq (hr.at 69 (by decide) (by decide) rfl))))))))) rfl ?_
  refine ar_push rfl ?_
  refine ar_ldA rfl rfl ?_
  refine ar_get rfl (hs_ne (by decide) (hs_eq (hs_ne (by decide) (hs_ne (by decide) (hs_eq (hs_eq (hs_eq (hs_eq (hr.at 69 (by decide) (by decide) rfl))))))))) rfl ?_
  refine ar_bink (z := 1430) rfl (by decide) ?_
  refine ar_ldI rfl rfl ?_
  refine ar_ast rfl (hs_ne (by decide) (hs_ne (by decide) (hs_ne (by decide) (hs_ne (by decide) (hs_ne (by decide) (hs_ne (by decide) (hs_ne (by decide) (hs_ne (by decide) (hr.at 84 (by decide) (by decide) rfl))))))))) (by decide) (Nat.le_of_ble_eq_true rfl) ?_
  refine ar_ldA rfl rfl ?_
  refine ar_dup rfl rfl ?_
  refine ar_get rfl (hs_ne (by decide) (hs_ne (by decide) (hs_eq (hs_ne (by decide) (hs_ne (by decide) (hs_eq (hs_eq (hs_eq (hs_eq (hr.at 69 (by decide) (by decide) rfl)))))))))) rfl ?_
  refine ar_push rfl ?_
  refine ar_bink (z := 1) rfl (by decide) ?_
  refine ar_put rfl (hs_ne (by decide) (hs_ne (by decide) (hs_eq (hs_ne (by decide) (hs_ne (by decide) (hs_eq (hs_eq (hs_eq (hs_eq (hr.at 69 (by decide) (by decide) rfl)))))))))) (Nat.le_of_ble_eq_true rfl) rfl ?_
  refine ar_ret0 rfl ?_
  show aRun _ (aCall Mt _) _ 81 (_, [], _, _, _)
  refine ar_ret0 rfl ?_
  show aRun _ (aCall Mt _) _ 154 (_, [], _, _, _)
  refine ar_ret0 rfl ?_
  show aRun _ (aCall Mt _) _ 4 (_, [], _, _, _)
  refine ar_ldA rfl rfl ?_
  refine ar_get rfl (hs_eq (hs_ne (by decide) (hs_ne (by decide) (hs_eq (hs_ne (by decide) (hs_ne (by decide) (hs_eq (hs_eq (hs_eq (hs_eq (hr.at 69 (by decide) (by decide) rfl))))))))))) rfl ?_
  refine ar_if1t rfl (by decide) ?_
  refine ar_ret0 rfl ?_
  show aRun _ (aCall Mt _) _ 4 (_, [], _, _, _)
  refine ar_ldA rfl rfl ?_
  refine ar_get rfl (hs_eq (hs_ne (by decide) (hs_ne (by decide) (hs_eq (hs_ne (by decide) (hs_ne (by decide) (hs_eq (hs_eq (hs_eq (hs_eq (hr.at 69 (by decide) (by decide) rfl))))))))))) rfl ?_
  refine ar_if1t rfl (by decide) ?_
  refine ar_ret0 rfl ?_
  show aRun _ (aCall Mt _) _ 4 (_, [], _, _, _)
  refine ar_ldA rfl rfl ?_
  refine ar_inl (mc := 0) (ms := 0) rfl (rcv_of (hs_eq (hs_ne (by decide) (hs_ne (by decide) (hs_eq (hs_ne (by decide) (hs_ne (by decide) (hs_eq (hs_eq (hs_eq (hs_eq (hr.at 69 (by decide) (by decide) rfl)))))))))))) (Nat.le_of_ble_eq_true rfl) (Nat.le_of_ble_eq_true rfl) (by omega) (by omega) ?_
  refine ac_ink [some (.inr (.inr (some 69)))] mt_213 (Nat.le_of_ble_eq_true rfl) rfl ?_
  refine ar_ldA rfl rfl ?_
  refine ar_get rfl (hs_eq (hs_ne (by decide) (hs_ne (by decide) (hs_eq (hs_ne (by decide) (hs_ne (by decide) (hs_eq (hs_eq (hs_eq (hs_eq (hr.at 69 (by decide) (by decide) rfl))))))))))) rfl ?_
  refine ar_ldA rfl rfl ?_
  refine ar_get rfl (hs_eq (hs_ne (by decide) (hs_ne (by decide) (hs_eq (hs_ne (by decide) (hs_ne (by decide) (hs_eq (hs_eq (hs_eq (hs_eq (hr.at 69 (by decide) (by decide) rfl))))))))))) rfl ?_
  refine ar_if2t rfl (by decide) ?_
  refine ar_push rfl ?_
  refine ar_ret rfl rfl ?_
  show aRun _ (aCall Mt _) _ 8 (_, [_], _, _, _)
  refine ar_svIk [some (.inr (.inr (some 69))), some (.inl (-1))] rfl rfl ?_
  refine ar_ldA rfl rfl ?_
  refine ar_get rfl (hs_eq (hs_ne (by decide) (hs_ne (by decide) (hs_eq (hs_ne (by decide) (hs_ne (by decide) (hs_eq (hs_eq (hs_eq (hs_eq (hr.at 69 (by decide) (by decide) rfl))))))))))) rfl ?_
  refine ar_if1t rfl (by decide) ?_
  refine ar_ret0 rfl ?_
  show aRun _ (aCall Mt _) _ 4 (_, [], _, _, _)
  refine ar_ldA rfl rfl ?_
  refine ar_get rfl (hs_eq (hs_ne (by decide) (hs_ne (by decide) (hs_eq (hs_ne (by decide) (hs_ne (by decide) (hs_eq (hs_eq (hs_eq (hs_eq (hr.at 69 (by decide) (by decide) rfl))))))))))) rfl ?_
  refine ar_if1t rfl (by decide) ?_
  refine ar_ret0 rfl ?_
  show aRun _ (aCall Mt _) _ 4 (_, [], _, _, _)
  refine ar_ldA rfl rfl ?_
  refine ar_get rfl (hs_eq (hs_ne (by decide) (hs_ne (by decide) (hs_eq (hs_ne (by decide) (hs_ne (by decide) (hs_eq (hs_eq (hs_eq (hs_eq (hr.at 69 (by decide) (by decide) rfl))))))))))) rfl ?_
  refine ar_if1t rfl (by decide) ?_
  refine ar_ret0 rfl ?_
  show aRun _ (aCall Mt _) _ 27 (_, [], _, _, _)
  refine ar_ldA rfl rfl ?_
  refine ar_get rfl (hs_eq (hs_ne (by decide) (hs_ne (by decide) (hs_eq (hs_ne (by decide) (hs_ne (by decide) (hs_eq (hs_eq (hs_eq (hs_eq (hr.at 69 (by decide) (by decide) rfl))))))))))) rfl ?_
  refine ar_if1t rfl (by decide) ?_
  refine ar_ldA rfl rfl ?_
  refine ar_get rfl (hs_eq (hs_ne (by decide) (hs_ne (by decide) (hs_eq (hs_ne (by decide) (hs_ne (by decide) (hs_eq (hs_eq (hs_eq (hs_eq (hr.at 69 (by decide) (by decide) rfl))))))))))) rfl ?_
  refine ar_ldI rfl rfl ?_
  refine ar_ldA rfl rfl ?_
  refine ar_get rfl (hs_eq (hs_ne (by decide) (hs_ne (by decide) (hs_eq (hs_ne (by decide) (hs_ne (by decide) (hs_eq (hs_eq (hs_eq (hs_eq (hr.at 69 (by decide) (by decide) rfl))))))))))) rfl ?_
  refine ar_un rfl ?_
  refine ar_ast rfl (hs_ne (by decide) (hs_ne (by decide) (hs_ne (by decide) (hs_ne (by decide) (hs_ne (by decide) (hs_ne (by decide) (hs_ne (by decide) (hs_ne (by decide) (hs_ne (by decide) (hs_ne (by decide) (hr.at 87 (by decide) (by decide) rfl))))))))))) (by decide) (Nat.le_of_ble_eq_true rfl) ?_
  refine ar_ldA rfl rfl ?_
  refine ar_get rfl (hs_ne (by decide) (hs_eq (hs_ne (by decide) (hs_ne (by decide) (hs_eq (hs_ne (by decide) (hs_ne (by decide) (hs_eq (hs_eq (hs_eq (hs_eq (hr.at 69 (by decide) (by decide) rfl)))))))))))) rfl ?_
  refine ar_push rfl ?_
  refine ar_dup2 rfl rfl rfl ?_
  refine ar_ald rfl (hs_ne (by decide) (hs_ne (by decide) (hs_ne (by decide) (hs_ne (by decide) (hs_ne (by decide) (hs_ne (by decide) (hs_eq (hs_ne (by decide) (hs_ne (by decide) (hs_ne (by decide) (hs_ne (by decide) (hr.at 85 (by decide) (by decide) rfl)))))))))))) (by decide) rfl ?_
  refine ar_push rfl ?_
  refine ar_bink (z := 1) rfl (by decide) ?_
  refine ar_ast rfl (hs_ne (by decide) (hs_ne (by decide) (hs_ne (by decide) (hs_ne (by decide) (hs_ne (by decide) (hs_ne (by decide) (hs_eq (hs_ne (by decide) (hs_ne (by decide) (hs_ne (by decide) (hs_ne (by decide) (hr.at 85 (by decide) (by decide) rfl)))))))))))) (by decide) (Nat.le_of_ble_eq_true rfl) ?_
  refine ar_ret0 rfl ?_
  show aRun _ (aCall Mt _) _ 54 (_, [], _, _, _)
  refine ar_ldA rfl rfl ?_
  refine ar_get rfl (hs_ne (by decide) (hs_ne (by decide) (hs_eq (hs_ne (by decide) (hs_ne (by decide) (hs_eq (hs_ne (by decide) (hs_ne (by decide) (hs_eq (hs_eq (hs_eq (hs_eq (hr.at 69 (by decide) (by decide) rfl))))))))))))) rfl ?_
  refine ar_if1t rfl (by decide) ?_
  refine ar_ldA rfl rfl ?_
  refine ar_get rfl (hs_ne (by decide) (hs_ne (by decide) (hs_eq (hs_ne (by decide) (hs_ne (by decide) (hs_eq (hs_ne (by decide) (hs_ne (by decide) (hs_eq (hs_eq (hs_eq (hs_eq (hr.at 69 (by decide) (by decide) rfl))))))))))))) rfl ?_
  refine ar_if1t rfl (by decide) ?_
  refine ar_ldA rfl rfl ?_
  refine ar_push rfl ?_
  refine ar_put rfl (hs_ne (by decide) (hs_ne (by decide) (hs_eq (hs_ne (by decide) (hs_ne (by decide) (hs_eq (hs_ne (by decide) (hs_ne (by decide) (hs_eq (hs_eq (hs_eq (hs_eq (hr.at 69 (by decide) (by decide) rfl))))))))))))) (Nat.le_of_ble_eq_true rfl) rfl ?_
  refine ar_ldA rfl rfl ?_
  refine ar_get rfl (hs_eq (hs_ne (by decide) (hs_ne (by decide) (hs_eq (hs_ne (by decide) (hs_ne (by decide) (hs_eq (hs_ne (by decide) (hs_ne (by decide) (hs_eq (hs_eq (hs_eq (hs_eq (hr.at 69 (by decide) (by decide) rfl)))))))))))))) rfl ?_
  refine ar_if1f rfl (by decide) ?_
  refine ar_push rfl ?_
  refine ar_ldA rfl rfl ?_
  refine ar_get rfl (hs_eq (hs_ne (by decide) (hs_ne (by decide) (hs_eq (hs_ne (by decide) (hs_ne (by decide) (hs_eq (hs_ne (by decide) (hs_ne (by decide) (hs_eq (hs_eq (hs_eq (hs_eq (hr.at 69 (by decide) (by decide) rfl)))))))))))))) rfl ?_
  refine ar_bink (z := (-100)) rfl (by decide) ?_
  refine ar_ret rfl rfl ?_
  exact ⟨rfl, hJ _ _ _⟩
set_option maxRecDepth 20000 in
set_option maxHeartbeats 4000000 in
theorem p1_7_15 (J : aH → Nat → Nat → Prop) (hJ : ∀ h a b, J h a b) (kc ks : Nat) (hkc : 1000 ≤ kc) (hks : 100000 ≤ ks) : aPairI 0 69 131 227 [.inl 15] J hF kc ks := by
  refine ⟨0, 0, _, by omega, by omega, rfl, ?_⟩
  refine ac_ink [some (.inr (.inr (some 0))), some (.inl 15), none, none] mt_131 (Nat.le_of_ble_eq_true rfl) rfl ?_
  refine ar_ldA rfl rfl ?_
  refine ar_ldI rfl rfl ?_
  refine ar_inl (mc := 0) (ms := 0) rfl (rcv_of rfl) (Nat.le_of_ble_eq_true rfl) (Nat.le_of_ble_eq_true rfl) (by omega) (by omega) ?_
  refine ac_ink [some (.inr (.inr (some 0))), some (.inl 15)] mt_166 (Nat.le_of_ble_eq_true rfl) rfl ?_
  refine ar_ldI rfl rfl ?_
  refine ar_if1t rfl (by decide) ?_
  refine ar_ldI rfl rfl ?_
  refine ar_push rfl ?_
  refine ar_if2t rfl (by decide) ?_
  refine ar_ldA rfl rfl ?_
  refine ar_get rfl rfl rfl ?_
  refine ar_ldI rfl rfl ?_
  refine ar_push rfl ?_
  refine ar_bink (z := 5) rfl (by decide) ?_
  refine ar_inl (mc := 0) (ms := 0) rfl (rcv_of rfl) (Nat.le_of_ble_eq_true rfl) (Nat.le_of_ble_eq_true rfl) (by omega) (by omega) ?_
  refine ac_ink [some (.inr (.inr (some 15))), some (.inl 5)] mt_7 (Nat.le_of_ble_eq_true rfl) rfl ?_
  refine ar_ldI rfl rfl ?_
  refine ar_inl (mc := 0) (ms := 0) rfl rfl (Nat.le_of_ble_eq_true rfl) (Nat.le_of_ble_eq_true rfl) (by omega) (by omega) ?_
  refine ac_ink [some (.inl 5)] mt_175 (Nat.le_of_ble_eq_true rfl) rfl ?_
  refine ar_ldI rfl rfl ?_
  refine ar_push rfl ?_
  refine ar_push rfl ?_
  refine ar_callv rfl rfl (Nat.le_of_ble_eq_true rfl) (Nat.le_of_ble_eq_true rfl) rfl (sp_within _ _ _ _ _) ?_
  refine ar_ret rfl (bi_ret _) ?_
  show aRun _ (aCall Mt _) _ 4 (_, [_], _, _, _)
  refine ar_if1f rfl (bi_e0f (by decide)) ?_
  refine ar_ldA rfl rfl ?_
  refine ar_get rfl rfl rfl ?_
  refine ar_ldI rfl rfl ?_
  refine ar_aldA rfl rfl (by decide) rfl ?_
  refine ar_go rfl ?_
  refine ar_ret rfl rfl ?_
  show aRun _ (aCall Mt _) _ 36 (_, [_], _, _, _)
  refine ar_ret rfl rfl ?_
  show aRun _ (aCall Mt _) _ 5 (_, [_], _, _, _)
  refine ar_svAk [some (.inr (.inr (some 0))), some (.inl 15), some (.inr (.inr (some 33))), none] rfl rfl ?_
  refine ar_ldA rfl rfl ?_
  refine ar_nulS rfl ?_
  refine ar_ldA rfl rfl ?_
  refine ar_get rfl rfl rfl ?_
  refine ar_ldA rfl rfl ?_
  refine ar_inl (mc := 0) (ms := 0) rfl (rcv_of rfl) (Nat.le_of_ble_eq_true rfl) (Nat.le_of_ble_eq_true rfl) (by omega) (by omega) ?_
  refine ac_ink [some (.inr (.inr (some 5))), some (.inr (.inr (some 33))), none] mt_94 (Nat.le_of_ble_eq_true rfl) rfl ?_
  refine ar_ldA rfl rfl ?_
  refine ar_push rfl ?_
  refine ar_put rfl rfl (Nat.le_of_ble_eq_true rfl) rfl ?_
  refine ar_ldA rfl rfl ?_
  refine ar_push rfl ?_
  refine ar_put rfl (hs_eq rfl) (Nat.le_of_ble_eq_true rfl) rfl ?_
  refine ar_ldA rfl rfl ?_
  refine ar_push rfl ?_
  refine ar_put rfl (hs_eq (hs_eq rfl)) (Nat.le_of_ble_eq_true rfl) rfl ?_
  refine ar_ldA rfl rfl ?_
  refine ar_inl (mc := 0) (ms := 0) rfl (rcv_of (hs_eq (hs_eq (hs_eq rfl)))) (Nat.le_of_ble_eq_true rfl) (Nat.le_of_ble_eq_true rfl) (by omega) (by omega) ?_
  refine ac_ink [some (.inr (.inr (some 5))), none] mt_100 (Nat.le_of_ble_eq_true rfl) rfl ?_
  refine ar_ldA rfl rfl ?_
  refine ar_push rfl ?_
  refine ar_inl (mc := 0) (ms := 0) rfl (rcv_of (hs_eq (hs_eq (hs_eq rfl)))) (Nat.le_of_ble_eq_true rfl) (Nat.le_of_ble_eq_true rfl) (by omega) (by omega) ?_
  refine ac_ink [some (.inr (.inr (some 5))), some (.inl 0), none] mt_101 (Nat.le_of_ble_eq_true rfl) rfl ?_
  refine ar_ldA rfl rfl ?_
  refine ar_ldI rfl rfl ?_
  refine ar_inl (mc := 0) (ms := 0) rfl (rcv_of (hs_eq (hs_eq (hs_eq rfl)))) (Nat.le_of_ble_eq_true rfl) (Nat.le_of_ble_eq_true rfl) (by omega) (by omega) ?_
  refine ac_ink [some (.inr (.inr (some 5))), some (.inl 0), none] mt_102 (Nat.le_of_ble_eq_true rfl) rfl ?_
  refine ar_ldA rfl rfl ?_
  refine ar_ldI rfl rfl ?_
  refine ar_inl (mc := 0) (ms := 0) rfl (rcv_of (hs_eq (hs_eq (hs_eq rfl)))) (Nat.le_of_ble_eq_true rfl) (Nat.le_of_ble_eq_true rfl) (by omega) (by omega) ?_
  refine ac_ink [some (.inr (.inr (some 5))), some (.inl 0), none] mt_103 (Nat.le_of_ble_eq_true rfl) rfl ?_
  refine ar_ldA rfl rfl ?_
  refine ar_ldI rfl rfl ?_
  refine ar_inl (mc := 0) (ms := 0) rfl (rcv_of (hs_eq (hs_eq (hs_eq rfl)))) (Nat.le_of_ble_eq_true rfl) (Nat.le_of_ble_eq_true rfl) (by omega) (by omega) ?_
  refine ac_ink [some (.inr (.inr (some 5))), some (.inl 0), none, none] mt_104 (Nat.le_of_ble_eq_true rfl) rfl ?_
  refine ar_ldA rfl rfl ?_
  refine ar_ldI rfl rfl ?_
  refine ar_inl (mc := 0) (ms := 0) rfl (rcv_of (hs_eq (hs_eq (hs_eq rfl)))) (Nat.le_of_ble_eq_true rfl) (Nat.le_of_ble_eq_true rfl) (by omega) (by omega) ?_
  refine ac_ink [some (.inr (.inr (some 5))), some (.inl 0), none, none] mt_105 (Nat.le_of_ble_eq_true rfl) rfl ?_
  refine ar_ldA rfl rfl ?_
  refine ar_ldI rfl rfl ?_
  refine ar_inl (mc := 0) (ms := 0) rfl (rcv_of (hs_eq (hs_eq (hs_eq rfl)))) (Nat.le_of_ble_eq_true rfl) (Nat.le_of_ble_eq_true rfl) (by omega) (by omega) ?_
  refine ac_ink [some (.inr (.inr (some 5))), some (.inl 0), none] mt_106 (Nat.le_of_ble_eq_true rfl) rfl ?_
  refine ar_ldA rfl rfl ?_
  refine ar_inl (mc := 0) (ms := 0) rfl (rcv_of (hs_eq (hs_eq (hs_eq rfl)))) (Nat.le_of_ble_eq_true rfl) (Nat.le_of_ble_eq_true rfl) (by omega) (by omega) ?_
  refine ac_ink [some (.inr (.inr (some 5)))] mt_95 (Nat.le_of_ble_eq_true rfl) rfl ?_
  refine ar_ldA rfl rfl ?_
  refine ar_get rfl (hs_eq (hs_eq (hs_eq rfl))) rfl ?_
  refine ar_if1f rfl (by decide) ?_
  refine ar_ldA rfl rfl ?_
  refine ar_get rfl (hs_eq (hs_eq (hs_eq rfl))) rfl ?_
  refine ar_ldA rfl rfl ?_
  refine ar_get rfl (hs_eq (hs_eq (hs_eq rfl))) rfl ?_
  refine ar_if2t rfl (by decide) ?_
  refine ar_push rfl ?_
  refine ar_ret rfl rfl ?_
  show aRun _ (aCall Mt _) _ 4 (_, [_], _, _, _)
  refine ar_svIk [some (.inr (.inr (some 5))), some (.inl 0), some (.inl (-1))] rfl rfl ?_
  refine ar_ldI rfl rfl ?_
  refine ar_push rfl ?_
  refine ar_push rfl ?_
  refine ar_callv rfl rfl (Nat.le_of_ble_eq_true rfl) (Nat.le_of_ble_eq_true rfl) rfl (sp_within _ _ _ _ _) ?_
  refine ar_if1t rfl (bi_e0t (by decide)) ?_
  refine ar_ldI rfl rfl ?_
  refine ar_push rfl ?_
  refine ar_push rfl ?_
  refine ar_callv rfl rfl (Nat.le_of_ble_eq_true rfl) (Nat.le_of_ble_eq_true rfl) rfl (sp_within _ _ _ _ _) ?_
  refine ar_if1t rfl (bi_e0t (by decide)) ?_
  refine ar_ldI rfl rfl ?_
  refine ar_push rfl ?_
  refine ar_if2t rfl (by decide) ?_
  refine ar_ldA rfl rfl ?_
  refine ar_push rfl ?_
  refine ar_inl (mc := 0) (ms := 0) rfl (rcv_of (hs_eq (hs_eq (hs_eq rfl)))) (Nat.le_of_ble_eq_true rfl) (Nat.le_of_ble_eq_true rfl) (by omega) (by omega) ?_
  refine ac_ink [some (.inr (.inr (some 5))), some (.inl 40)] mt_96 (Nat.le_of_ble_eq_true rfl) rfl ?_
  refine ar_ldA rfl rfl ?_
  refine ar_inl (mc := 0) (ms := 0) rfl (rcv_of (hs_eq (hs_eq (hs_eq rfl)))) (Nat.le_of_ble_eq_true rfl) (Nat.le_of_ble_eq_true rfl) (by omega) (by omega) ?_
  refine ac_ink [some (.inr (.inr (some 5)))] mt_95 (Nat.le_of_ble_eq_true rfl) rfl ?_
  refine ar_ldA rfl rfl ?_
  refine ar_get rfl (hs_eq (hs_eq (hs_eq rfl))) rfl ?_
  refine ar_if1f rfl (by decide) ?_
  refine ar_ldA rfl rfl ?_
  refine ar_get rfl (hs_eq (hs_eq (hs_eq rfl))) rfl ?_
  refine ar_ldA rfl rfl ?_
  refine ar_get rfl (hs_eq (hs_eq (hs_eq rfl))) rfl ?_
  refine ar_if2t rfl (by decide) ?_
  refine ar_push rfl ?_
  refine ar_ret rfl rfl ?_
  show aRun _ (aCall Mt _) _ 4 (_, [_], _, _, _)
  refine ar_ldI rfl rfl ?_
  refine ar_if2f rfl (by decide) ?_
  refine ar_push rfl ?_
  refine ar_ret rfl rfl ?_
  show aRun _ (aCall Mt _) _ 88 (_, [_], _, _, _)
  refine ar_if1t rfl (by decide) ?_
  refine ar_ldA rfl rfl ?_
  refine ar_push rfl ?_
  refine ar_inl (mc := 0) (ms := 0) rfl (rcv_of (hs_eq (hs_eq (hs_eq rfl)))) (Nat.le_of_ble_eq_true rfl) (Nat.le_of_ble_eq_true rfl) (by omega) (by omega) ?_
  refine ac_ink [some (.inr (.inr (some 5))), some (.inl 33)] mt_96 (Nat.le_of_ble_eq_true rfl) rfl ?_
  refine ar_ldA rfl rfl ?_
  refine ar_inl (mc := 0) (ms := 0) rfl (rcv_of (hs_eq (hs_eq (hs_eq rfl)))) (Nat.le_of_ble_eq_true rfl) (Nat.le_of_ble_eq_true rfl) (by omega) (by omega) ?_
  refine ac_ink [some (.inr (.inr (some 5)))] mt_95 (Nat.le_of_ble_eq_true rfl) rfl ?_
  refine ar_ldA rfl rfl ?_
  refine ar_get rfl (hs_eq (hs_eq (hs_eq rfl))) rfl ?_
  refine ar_if1f rfl (by decide) ?_
  refine ar_ldA rfl rfl ?_
  refine ar_get rfl (hs_eq (hs_eq (hs_eq rfl))) rfl ?_
  refine ar_ldA rfl rfl ?_
  refine ar_get rfl (hs_eq (hs_eq (hs_eq rfl))) rfl ?_
  refine ar_if2t rfl (by decide) ?_
  refine ar_push rfl ?_
  refine ar_ret rfl rfl ?_
  show aRun _ (aCall Mt _) _ 4 (_, [_], _, _, _)
  refine ar_ldI rfl rfl ?_
  refine ar_if2f rfl (by decide) ?_
  refine ar_push rfl ?_
  refine ar_ret rfl rfl ?_
  show aRun _ (aCall Mt _) _ 120 (_, [_], _, _, _)
  refine ar_if1t rfl (by decide) ?_
  refine ar_ldA rfl rfl ?_
  refine ar_push rfl ?_
  refine ar_inl (mc := 0) (ms := 0) rfl (rcv_of (hs_eq (hs_eq (hs_eq rfl)))) (Nat.le_of_ble_eq_true rfl) (Nat.le_of_ble_eq_true rfl) (by omega) (by omega) ?_
  refine ac_ink [some (.inr (.inr (some 5))), some (.inl 45)] mt_96 (Nat.le_of_ble_eq_true rfl) rfl ?_
  refine ar_ldA rfl rfl ?_
  refine ar_inl (mc := 0) (ms := 0) rfl (rcv_of (hs_eq (hs_eq (hs_eq rfl)))) (Nat.le_of_ble_eq_true rfl) (Nat.le_of_ble_eq_true rfl) (by omega) (by omega) ?_
  refine ac_ink [some (.inr (.inr (some 5)))] mt_95 (Nat.le_of_ble_eq_true rfl) rfl ?_
  refine ar_ldA rfl rfl ?_
  refine ar_get rfl (hs_eq (hs_eq (hs_eq rfl))) rfl ?_
  refine ar_if1f rfl (by decide) ?_
  refine ar_ldA rfl rfl ?_
  refine ar_get rfl (hs_eq (hs_eq (hs_eq rfl))) rfl ?_
  refine ar_ldA rfl rfl ?_
  refine ar_get rfl (hs_eq (hs_eq (hs_eq rfl))) rfl ?_
  refine ar_if2t rfl (by decide) ?_
  refine ar_push rfl ?_
  refine ar_ret rfl rfl ?_
  show aRun _ (aCall Mt _) _ 4 (_, [_], _, _, _)
  refine ar_ldI rfl rfl ?_
  refine ar_if2f rfl (by decide) ?_
  refine ar_push rfl ?_
  refine ar_ret rfl rfl ?_
  show aRun _ (aCall Mt _) _ 145 (_, [_], _, _, _)
  refine ar_if1t rfl (by decide) ?_
  refine ar_ldA rfl rfl ?_
  refine ar_inl (mc := 0) (ms := 0) rfl (rcv_of (hs_eq (hs_eq (hs_eq rfl)))) (Nat.le_of_ble_eq_true rfl) (Nat.le_of_ble_eq_true rfl) (by omega) (by omega) ?_
  refine ac_ink [some (.inr (.inr (some 5)))] mt_99 (Nat.le_of_ble_eq_true rfl) rfl ?_
  refine ar_ldA rfl rfl ?_
  refine ar_get rfl (hs_eq (hs_eq (hs_eq rfl))) rfl ?_
  refine ar_push rfl ?_
  refine ar_if2f rfl (by decide) ?_
  refine ar_ldA rfl rfl ?_
  refine ar_ldA rfl rfl ?_
  refine ar_get rfl (hs_eq (hs_eq (hs_eq rfl))) rfl ?_
  refine ar_put rfl (hs_eq (hs_eq (hs_eq rfl))) (Nat.le_of_ble_eq_true rfl) rfl ?_
  refine ar_ret0 rfl ?_
  show aRun _ (aCall Mt _) _ 168 (_, [], _, _, _)
  refine ar_ret0 rfl ?_
  show aRun _ (aCall Mt _) _ 5 (_, [], _, _, _)
  refine ar_push rfl ?_
  refine ar_svIk [some (.inr (.inr (some 5))), some (.inl 0), some (.inl 0), none] rfl rfl ?_
  refine ar_ldI rfl rfl ?_
  refine ar_ldA rfl rfl ?_
  refine ar_get rfl (hs_eq (hs_eq (hs_eq (hs_eq rfl)))) rfl ?_
  refine ar_if2t rfl (by decide) ?_
  refine ar_ret0 rfl ?_
  show aRun _ (aCall Mt _) _ 5 (_, [], _, _, _)
  refine ar_push rfl ?_
  refine ar_svIk [some (.inr (.inr (some 5))), some (.inl 0), some (.inl 0), none] rfl rfl ?_
  refine ar_ldI rfl rfl ?_
  refine ar_ldA rfl rfl ?_
  refine ar_get rfl (hs_eq (hs_eq (hs_eq (hs_eq rfl)))) rfl ?_
  refine ar_if2t rfl (by decide) ?_
  refine ar_ret0 rfl ?_
  show aRun _ (aCall Mt _) _ 5 (_, [], _, _, _)
  refine ar_ldA rfl rfl ?_
  refine ar_push rfl ?_
  refine ar_inl (mc := 0) (ms := 0) rfl (rcv_of (hs_eq (hs_eq (hs_eq (hs_eq rfl))))) (Nat.le_of_ble_eq_true rfl) (Nat.le_of_ble_eq_true rfl) (by omega) (by omega) ?_
  refine ac_ink [some (.inr (.inr (some 5))), some (.inl 60)] mt_97 (Nat.le_of_ble_eq_true rfl) rfl ?_
  refine ar_ldA rfl rfl ?_
  refine ar_get rfl (hs_eq (hs_eq (hs_eq (hs_eq rfl)))) rfl ?_
  refine ar_push rfl ?_
  refine ar_if2t rfl (by decide) ?_
  refine ar_push rfl ?_
  refine ar_ret rfl rfl ?_
  show aRun _ (aCall Mt _) _ 11 (_, [_], _, _, _)
  refine ar_if1t rfl (by decide) ?_
  refine ar_ldA rfl rfl ?_
  refine ar_push rfl ?_
  refine ar_inl (mc := 0) (ms := 0) rfl (rcv_of (hs_eq (hs_eq (hs_eq (hs_eq rfl))))) (Nat.le_of_ble_eq_true rfl) (Nat.le_of_ble_eq_true rfl) (by omega) (by omega) ?_
  refine ac_ink [some (.inr (.inr (some 5))), some (.inl 61)] mt_97 (Nat.le_of_ble_eq_true rfl) rfl ?_
  refine ar_ldA rfl rfl ?_
  refine ar_get rfl (hs_eq (hs_eq (hs_eq (hs_eq rfl)))) rfl ?_
  refine ar_push rfl ?_
  refine ar_if2t rfl (by decide) ?_
  refine ar_push rfl ?_
  refine ar_ret rfl rfl ?_
  show aRun _ (aCall Mt _) _ 25 (_, [_], _, _, _)
  refine ar_if1t rfl (by decide) ?_
  refine ar_ldA rfl rfl ?_
  refine ar_push rfl ?_
  refine ar_inl (mc := 0) (ms := 0) rfl (rcv_of (hs_eq (hs_eq (hs_eq (hs_eq rfl))))) (Nat.le_of_ble_eq_true rfl) (Nat.le_of_ble_eq_true rfl) (by omega) (by omega) ?_
  refine ac_ink [some (.inr (.inr (some 5))), some (.inl 62)] mt_97 (Nat.le_of_ble_eq_true rfl) rfl ?_
  refine ar_ldA rfl rfl ?_
  refine ar_get rfl (hs_eq (hs_eq (hs_eq (hs_eq rfl)))) rfl ?_
  refine ar_push rfl ?_
  refine ar_if2t rfl (by decide) ?_
  refine ar_push rfl ?_
  refine ar_ret rfl rfl ?_
  show aRun _ (aCall Mt _) _ 39 (_, [_], _, _, _)
  refine ar_if1t rfl (by decide) ?_
  refine ar_push rfl ?_
  refine ar_svIk [some (.inr (.inr (some 5))), some (.inl 0), some (.inl 15)] rfl rfl ?_
  refine ar_ldI rfl rfl ?_
  refine ar_push rfl ?_
  refine ar_if2f rfl (by decide) ?_
  refine ar_ret0 rfl ?_
  show aRun _ (aCall Mt _) _ 5 (_, [], _, _, _)
  refine ar_push rfl ?_
  refine ar_svIk [some (.inr (.inr (some 5))), some (.inl 0), some (.inl 0)] rfl rfl ?_
  refine ar_ldI rfl rfl ?_
  refine ar_ldA rfl rfl ?_
  refine ar_get rfl (hs_eq (hs_eq (hs_eq (hs_eq rfl)))) rfl ?_
  refine ar_if2t rfl (by decide) ?_
  refine ar_ret0 rfl ?_
  show aRun _ (aCall Mt _) _ 5 (_, [], _, _, _)
  refine ar_push rfl ?_
  refine ar_svIk [some (.inr (.inr (some 5))), some (.inl 0), some (.inl 0)] rfl rfl ?_
  refine ar_ldI rfl rfl ?_
  refine ar_ldA rfl rfl ?_
  refine ar_get rfl (hs_eq (hs_eq (hs_eq (hs_eq rfl)))) rfl ?_
  refine ar_if2t rfl (by decide) ?_
  refine ar_ret0 rfl ?_
  show aRun _ (aCall Mt _) _ 5 (_, [], _, _, _)
  refine ar_ldA rfl rfl ?_
  refine ar_push rfl ?_
  refine ar_inl (mc := 0) (ms := 0) rfl (rcv_of (hs_eq (hs_eq (hs_eq (hs_eq rfl))))) (Nat.le_of_ble_eq_true rfl) (Nat.le_of_ble_eq_true rfl) (by omega) (by omega) ?_
  refine ac_ink [some (.inr (.inr (some 5))), some (.inl 63)] mt_97 (Nat.le_of_ble_eq_true rfl) rfl ?_
  refine ar_ldA rfl rfl ?_
  refine ar_get rfl (hs_eq (hs_eq (hs_eq (hs_eq rfl)))) rfl ?_
  refine ar_push rfl ?_
  refine ar_if2t rfl (by decide) ?_
  refine ar_push rfl ?_
  refine ar_ret rfl rfl ?_
  show aRun _ (aCall Mt _) _ 11 (_, [_], _, _, _)
  refine ar_if1f rfl (by decide) ?_
  refine ar_ldA rfl rfl ?_
  refine ar_push rfl ?_
  refine ar_push rfl ?_
  refine ar_inl (mc := 0) (ms := 0) rfl (rcv_of (hs_eq (hs_eq (hs_eq (hs_eq rfl))))) (Nat.le_of_ble_eq_true rfl) (Nat.le_of_ble_eq_true rfl) (by omega) (by omega) ?_
  refine ac_ink [some (.inr (.inr (some 5))), some (.inl 15), some (.inl 0)] mt_98 (Nat.le_of_ble_eq_true rfl) rfl ?_
  refine ar_ldA rfl rfl ?_
  refine ar_get rfl (hs_eq (hs_eq (hs_eq (hs_eq rfl)))) rfl ?_
  refine ar_ldA rfl rfl ?_
  refine ar_get rfl (hs_eq (hs_eq (hs_eq (hs_eq rfl)))) rfl ?_
  refine ar_len rfl (hs_ne (by decide) (hs_ne (by decide) (hs_ne (by decide) (hs_ne (by decide) rfl)))) ?_
  refine ar_if2t rfl (by decide) ?_
  refine ar_ldA rfl rfl ?_
  refine ar_get rfl (hs_eq (hs_eq (hs_eq (hs_eq rfl)))) rfl ?_
  refine ar_ldA rfl rfl ?_
  refine ar_get rfl (hs_eq (hs_eq (hs_eq (hs_eq rfl)))) rfl ?_
  refine ar_ldI rfl rfl ?_
  refine ar_ldI rfl rfl ?_
  refine ar_inl (mc := 0) (ms := 0) rfl rfl (Nat.le_of_ble_eq_true rfl) (Nat.le_of_ble_eq_true rfl) (by omega) (by omega) ?_
  refine ac_ink [some (.inl 15), some (.inl 0)] mt_111 (Nat.le_of_ble_eq_true rfl) rfl ?_
  refine ar_ldI rfl rfl ?_
  refine ar_push rfl ?_
  refine ar_bink (z := 0) rfl (by decide) ?_
  refine ar_ldI rfl rfl ?_
  refine ar_bink (z := 15) rfl (by decide) ?_
  refine ar_ret rfl rfl ?_
  show aRun _ (aCall Mt _) _ 26 (_, [_, _, _], _, _, _)
  refine ar_ast rfl (hs_ne (by decide) (hs_ne (by decide) (hs_ne (by decide) (hs_ne (by decide) rfl)))) (by decide) (Nat.le_of_ble_eq_true rfl) ?_
  refine ar_ldA rfl rfl ?_
  refine ar_dup rfl rfl ?_
  refine ar_get rfl (hs_ne (by decide) (hs_eq (hs_eq (hs_eq (hs_eq rfl))))) rfl ?_
  refine ar_push rfl ?_
  refine ar_bink (z := 1) rfl (by decide) ?_
  refine ar_put rfl (hs_ne (by decide) (hs_eq (hs_eq (hs_eq (hs_eq rfl))))) (Nat.le_of_ble_eq_true rfl) rfl ?_
  refine ar_ret0 rfl ?_
  show aRun _ (aCall Mt _) _ 21 (_, [], _, _, _)
  refine ar_ret0 rfl ?_
  show aRun _ (aCall Mt _) _ 19 (_, [], _, _, _)
  refine ar_push rfl ?_
  refine ar_svIk [some (.inr (.inr (some 5))), some (.inr (.inr (some 33))), some (.inl 0)] rfl rfl ?_
  refine ar_ldI rfl rfl ?_
  refine ar_ldA rfl rfl ?_
  refine ar_get rfl (hs_eq (hs_ne (by decide) (hs_eq (hs_eq (hs_eq (hs_eq rfl)))))) rfl ?_
  refine ar_if2t rfl (by decide) ?_
  refine ar_ldA rfl rfl ?_
  refine ar_get rfl (hs_eq (hs_ne (by decide) (hs_eq (hs_eq (hs_eq (hs_eq rfl)))))) rfl ?_
  refine ar_push rfl ?_
  refine ar_if2t rfl (by decide) ?_
  refine ar_ldA rfl rfl ?_
  refine ar_get rfl (hs_eq (hs_ne (by decide) (hs_eq (hs_eq (hs_eq (hs_eq rfl)))))) rfl ?_
  refine ar_push rfl ?_
  refine ar_if2t rfl (by decide) ?_
  refine ar_ldA rfl rfl ?_
  refine ar_push rfl ?_
  refine ar_put rfl (hs_eq (hs_ne (by decide) (hs_eq (hs_eq (hs_eq (hs_eq rfl)))))) (Nat.le_of_ble_eq_true rfl) rfl ?_
  refine ar_ldA rfl rfl ?_
  refine ar_get rfl (hs_eq (hs_eq (hs_ne (by decide) (hs_eq (hs_eq (hs_eq (hs_eq rfl))))))) rfl ?_
  refine ar_ret rfl rfl ?_
  show aRun _ (aCall Mt _) _ 20 (_, [_], _, _, _)
  refine ar_svIk [some (.inr (.inr (some 0))), some (.inl 15), some (.inr (.inr (some 33))), some (.inl 0)] rfl rfl ?_
  refine ar_ldI rfl rfl ?_
  refine ar_push rfl ?_
  refine ar_if2f rfl (by decide) ?_
  refine ar_push rfl ?_
  refine ar_ldI rfl rfl ?_
  refine ar_bink (z := (-100)) rfl (by decide) ?_
  refine ar_ret rfl rfl ?_
  refine ⟨_, 0, 0, _, rfl, Nat.zero_le _, Nat.zero_le _, (hs_ne (by decide) (hs_ne (by decide) (hs_ne (by decide) (hs_ne (by decide) (hs_ne (by decide) (hs_ne (by decide) (hs_ne (by decide) rfl))))))), ?_⟩
  refine rgen (((((((rFr_F.sets (by decide)).sets (by decide)).sets (by decide)).sets (by decide)).sets (by decide)).sets (by decide)).sets (by decide)) (fun g hr => ?_)
  refine ac_ink [some (.inr (.inr (some 69))), some (.inl 15), none, none] mt_227 (Nat.le_of_ble_eq_true rfl) rfl ?_
  refine ar_ldI rfl rfl ?_
  refine ar_push rfl ?_
  refine ar_push rfl ?_
  refine ar_callv rfl rfl (Nat.le_of_ble_eq_true rfl) (Nat.le_of_ble_eq_true rfl) rfl (sp_in _ _ _ _ _) ?_
  refine ar_if1f rfl (bi_n0f (by decide)) ?_
  refine ar_ldI rfl rfl ?_
  refine ar_push rfl ?_
  refine ar_push rfl ?_
  refine ar_callv rfl rfl (Nat.le_of_ble_eq_true rfl) (Nat.le_of_ble_eq_true rfl) rfl (sp_in _ _ _ _ _) ?_
  refine ar_if1t rfl (bi_n0t (by decide)) ?_
  refine ar_ldA rfl rfl ?_
  refine ar_push rfl ?_
  refine ar_put rfl (hr.at 69 (by decide) (by decide) rfl) (Nat.le_of_ble_eq_true rfl) rfl ?_
  refine ar_ldA rfl rfl ?_
  refine ar_push rfl ?_
  refine ar_put rfl (hs_eq (hr.at 69 (by decide) (by decide) rfl)) (Nat.le_of_ble_eq_true rfl) rfl ?_
  refine ar_ldA rfl rfl ?_
  refine ar_push rfl ?_
  refine ar_put rfl (hs_eq (hs_eq (hr.at 69 (by decide) (by decide) rfl))) (Nat.le_of_ble_eq_true rfl) rfl ?_
  refine ar_ldA rfl rfl ?_
  refine ar_push rfl ?_
  refine ar_put rfl (hs_eq (hs_eq (hs_eq (hr.at 69 (by decide) (by decide) rfl)))) (Nat.le_of_ble_eq_true rfl) rfl ?_
  refine ar_ldA rfl rfl ?_
  refine ar_get rfl (hs_eq (hs_eq (hs_eq (hs_eq (hr.at 69 (by decide) (by decide) rfl))))) rfl ?_
  refine ar_push rfl ?_
  refine ar_push rfl ?_
  refine ar_ast rfl (hs_ne (by decide) (hs_ne (by decide) (hs_ne (by decide) (hs_ne (by decide) (hr.at 85 (by decide) (by decide) rfl))))) (by decide) (Nat.le_of_ble_eq_true rfl) ?_
  refine ar_ldA rfl rfl ?_
  refine ar_inl (mc := 0) (ms := 0) rfl (rcv_of (hs_ne (by decide) (hs_eq (hs_eq (hs_eq (hs_eq (hr.at 69 (by decide) (by decide) rfl))))))) (Nat.le_of_ble_eq_true rfl) (Nat.le_of_ble_eq_true rfl) (by omega) (by omega) ?_
  refine ac_ink [some (.inr (.inr (some 69))), none] mt_225 (Nat.le_of_ble_eq_true rfl) rfl ?_
  refine ar_push rfl ?_
  refine ar_ldA rfl rfl ?_
  refine ar_get rfl (hs_ne (by decide) (hs_eq (hs_eq (hs_eq (hs_eq (hr.at 69 (by decide) (by decide) rfl)))))) rfl ?_
  refine ar_push rfl ?_
  refine ar_ald rfl (hs_eq (hs_ne (by decide) (hs_ne (by decide) (hs_ne (by decide) (hs_ne (by decide) (hr.at 85 (by decide) (by decide) rfl)))))) (by decide) rfl ?_
  refine ar_bink (z := 671) rfl (by decide) ?_
  refine ar_svIk [some (.inr (.inr (some 69))), some (.inl 671)] rfl rfl ?_
  refine ar_ldA rfl rfl ?_
  refine ar_get rfl (hs_ne (by decide) (hs_eq (hs_eq (hs_eq (hs_eq (hr.at 69 (by decide) (by decide) rfl)))))) rfl ?_
  refine ar_ldI rfl rfl ?_
  refine ar_ldA rfl rfl ?_
  refine ar_get rfl (hs_ne (by decide) (hs_eq (hs_eq (hs_eq (hs_eq (hr.at 69 (by decide) (by decide) rfl)))))) rfl ?_
  refine ar_un rfl ?_
  refine ar_ast rfl (hs_ne (by decide) (hs_ne (by decide) (hs_ne (by decide) (hs_ne (by decide) (hs_ne (by decide) (hr.at 86 (by decide) (by decide) rfl)))))) (by decide) (Nat.le_of_ble_eq_true rfl) ?_
  refine ar_ldA rfl rfl ?_
  refine ar_inl (mc := 0) (ms := 0) rfl (rcv_of (hs_ne (by decide) (hs_ne (by decide) (hs_eq (hs_eq (hs_eq (hs_eq (hr.at 69 (by decide) (by decide) rfl)))))))) (Nat.le_of_ble_eq_true rfl) (Nat.le_of_ble_eq_true rfl) (by omega) (by omega) ?_
  refine ac_ink [some (.inr (.inr (some 69)))] mt_224 (Nat.le_of_ble_eq_true rfl) rfl ?_
  refine ar_ldA rfl rfl ?_
  refine ar_inl (mc := 0) (ms := 0) rfl (rcv_of (hs_ne (by decide) (hs_ne (by decide) (hs_eq (hs_eq (hs_eq (hs_eq (hr.at 69 (by decide) (by decide) rfl)))))))) (Nat.le_of_ble_eq_true rfl) (Nat.le_of_ble_eq_true rfl) (by omega) (by omega) ?_
  refine ac_ink [some (.inr (.inr (some 69)))] mt_223 (Nat.le_of_ble_eq_true rfl) rfl ?_
  refine ar_ldA rfl rfl ?_
  refine ar_inl (mc := 0) (ms := 0) rfl (rcv_of (hs_ne (by decide) (hs_ne (by decide) (hs_eq (hs_eq (hs_eq (hs_eq (hr.at 69 (by decide) (by decide) rfl)))))))) (Nat.le_of_ble_eq_true rfl) (Nat.le_of_ble_eq_true rfl) (by omega) (by omega) ?_
  refine ac_ink [some (.inr (.inr (some 69))), none] mt_222 (Nat.le_of_ble_eq_true rfl) rfl ?_
  refine ar_ldA rfl rfl ?_
  refine ar_inl (mc := 0) (ms := 0) rfl (rcv_of (hs_ne (by decide) (hs_ne (by decide) (hs_eq (hs_eq (hs_eq (hs_eq (hr.at 69 (by decide) (by decide) rfl)))))))) (Nat.le_of_ble_eq_true rfl) (Nat.le_of_ble_eq_true rfl) (by omega) (by omega) ?_
  refine ac_ink [some (.inr (.inr (some 69))), none] mt_221 (Nat.le_of_ble_eq_true rfl) rfl ?_
  refine ar_ldA rfl rfl ?_
  refine ar_inl (mc := 0) (ms := 0) rfl (rcv_of (hs_ne (by decide) (hs_ne (by decide) (hs_eq (hs_eq (hs_eq (hs_eq (hr.at 69 (by decide) (by decide) rfl)))))))) (Nat.le_of_ble_eq_true rfl) (Nat.le_of_ble_eq_true rfl) (by omega) (by omega) ?_
  refine ac_ink [some (.inr (.inr (some 69))), none] mt_220 (Nat.le_of_ble_eq_true rfl) rfl ?_
  refine ar_ldA rfl rfl ?_
  refine ar_inl (mc := 0) (ms := 0) rfl (rcv_of (hs_ne (by decide) (hs_ne (by decide) (hs_eq (hs_eq (hs_eq (hs_eq (hr.at 69 (by decide) (by decide) rfl)))))))) (Nat.le_of_ble_eq_true rfl) (Nat.le_of_ble_eq_true rfl) (by omega) (by omega) ?_
  refine ac_ink [some (.inr (.inr (some 69))), none] mt_219 (Nat.le_of_ble_eq_true rfl) rfl ?_
  refine ar_ldA rfl rfl ?_
  refine ar_inl (mc := 0) (ms := 0) rfl (rcv_of (hs_ne (by decide) (hs_ne (by decide) (hs_eq (hs_eq (hs_eq (hs_eq (hr.at 69 (by decide) (by decide) rfl)))))))) (Nat.le_of_ble_eq_true rfl) (Nat.le_of_ble_eq_true rfl) (by omega) (by omega) ?_
  refine ac_ink [some (.inr (.inr (some 69)))] mt_213 (Nat.le_of_ble_eq_true rfl) rfl ?_
  refine ar_ldA rfl rfl ?_
  refine ar_get rfl (hs_ne (by decide) (hs_ne (by decide) (hs_eq (hs_eq (hs_eq (hs_eq (hr.at 69 (by decide) (by decide) rfl))))))) rfl ?_
  refine ar_ldA rfl rfl ?_
  refine ar_get rfl (hs_ne (by decide) (hs_ne (by decide) (hs_eq (hs_eq (hs_eq (hs_eq (hr.at 69 (by decide) (by decide) rfl))))))) rfl ?_
  refine ar_if2t rfl (by decide) ?_
  refine ar_push rfl ?_
  refine ar_ret rfl rfl ?_
  show aRun _ (aCall Mt _) _ 4 (_, [_], _, _, _)
  refine ar_svIk [some (.inr (.inr (some 69))), some (.inl (-1))] rfl rfl ?_
  refine ar_ldI rfl rfl ?_
  refine ar_inl (mc := 0) (ms := 0) rfl rfl (Nat.le_of_ble_eq_true rfl) (Nat.le_of_ble_eq_true rfl) (by omega) (by omega) ?_
  refine ac_ink [some (.inl (-1))] mt_216 (Nat.le_of_ble_eq_true rfl) rfl ?_
  refine ar_ldI rfl rfl ?_
  refine ar_tabO rfl (by decide) ?_
  refine ar_push rfl ?_
  refine ar_ret rfl rfl ?_
  show aRun _ (aCall Mt _) _ 9 (_, [_], _, _, _)
  refine ar_if1t rfl (by decide) ?_
  refine ar_ldI rfl rfl ?_
  refine ar_push rfl ?_
  refine ar_if2f rfl (by decide) ?_
  refine ar_ldI rfl rfl ?_
  refine ar_push rfl ?_
  refine ar_if2t rfl (by decide) ?_
  refine ar_ldI rfl rfl ?_
  refine ar_push rfl ?_
  refine ar_if2t rfl (by decide) ?_
  refine ar_ldA rfl rfl ?_
  refine ar_inl (mc := 0) (ms := 0) rfl (rcv_of (hs_ne (by decide) (hs_ne (by decide) (hs_eq (hs_eq (hs_eq (hs_eq (hr.at 69 (by decide) (by decide) rfl)))))))) (Nat.le_of_ble_eq_true rfl) (Nat.le_of_ble_eq_true rfl) (by omega) (by omega) ?_
  refine ac_ink [some (.inr (.inr (some 69))), none, none] mt_218 (Nat.le_of_ble_eq_true rfl) rfl ?_
  refine ar_push rfl ?_
  refine ar_svIk [some (.inr (.inr (some 69))), some (.inl 0), none] rfl rfl ?_
  refine ar_push rfl ?_
  refine ar_svIk [some (.inr (.inr (some 69))), some (.inl 0), some (.inl 0)] rfl rfl ?_
  refine ar_ldI rfl rfl ?_
  refine ar_push rfl ?_
  refine ar_if2f rfl (by decide) ?_
  refine ar_ldA rfl rfl ?_
  refine ar_inl (mc := 0) (ms := 0) rfl (rcv_of (hs_ne (by decide) (hs_ne (by decide) (hs_eq (hs_eq (hs_eq (hs_eq (hr.at 69 (by decide) (by decide) rfl)))))))) (Nat.le_of_ble_eq_true rfl) (Nat.le_of_ble_eq_true rfl) (by omega) (by omega) ?_
  refine ac_ink [some (.inr (.inr (some 69)))] mt_213 (Nat.le_of_ble_eq_true rfl) rfl ?_
  refine ar_ldA rfl rfl ?_
  refine ar_get rfl (hs_ne (by decide) (hs_ne (by decide) (hs_eq (hs_eq (hs_eq (hs_eq (hr.at 69 (by decide) (by decide) rfl))))))) rfl ?_
  refine ar_ldA rfl rfl ?_
  refine ar_get rfl (hs_ne (by decide) (hs_ne (by decide) (hs_eq (hs_eq (hs_eq (hs_eq (hr.at 69 (by decide) (by decide) rfl))))))) rfl ?_
  refine ar_if2t rfl (by decide) ?_
  refine ar_push rfl ?_
  refine ar_ret rfl rfl ?_
  show aRun _ (aCall Mt _) _ 14 (_, [_], _, _, _)
  refine ar_push rfl ?_
  refine ar_push rfl ?_
  refine ar_callv rfl rfl (Nat.le_of_ble_eq_true rfl) (Nat.le_of_ble_eq_true rfl) rfl (sp_in _ _ _ _ _) ?_
  refine ar_if1t rfl (bi_e0t (by decide)) ?_
  refine ar_ldI rfl rfl ?_
  refine ar_if1t rfl (by decide) ?_
  refine ar_ldA rfl rfl ?_
  refine ar_inl (mc := 0) (ms := 0) rfl (rcv_of (hs_ne (by decide) (hs_ne (by decide) (hs_eq (hs_eq (hs_eq (hs_eq (hr.at 69 (by decide) (by decide) rfl)))))))) (Nat.le_of_ble_eq_true rfl) (Nat.le_of_ble_eq_true rfl) (by omega) (by omega) ?_
  refine ac_ink [some (.inr (.inr (some 69)))] mt_214 (Nat.le_of_ble_eq_true rfl) rfl ?_
  refine ar_ldA rfl rfl ?_
  refine ar_get rfl (hs_ne (by decide) (hs_ne (by decide) (hs_eq (hs_eq (hs_eq (hs_eq (hr.at 69 (by decide) (by decide) rfl))))))) rfl ?_
  refine ar_if1f rfl (by decide) ?_
  refine ar_ldA rfl rfl ?_
  refine ar_ldA rfl rfl ?_
  refine ar_get rfl (hs_ne (by decide) (hs_ne (by decide) (hs_eq (hs_eq (hs_eq (hs_eq (hr.at 69 (by decide) (by decide) rfl))))))) rfl ?_
  refine ar_put rfl (hs_ne (by decide) (hs_ne (by decide) (hs_eq (hs_eq (hs_eq (hs_eq (hr.at 69 (by decide) (by decide) rfl))))))) (Nat.le_of_ble_eq_true rfl) rfl ?_
  refine ar_ret0 rfl ?_
  show aRun _ (aCall Mt _) _ 75 (_, [], _, _, _)
  refine ar_ldA rfl rfl ?_
  refine ar_push rfl ?_
  refine ar_ldI rfl rfl ?_
  refine ar_inl (mc := 0) (ms := 0) rfl (rcv_of (hs_eq (hs_ne (by decide) (hs_ne (by decide) (hs_eq (hs_eq (hs_eq (hs_eq (hr.at 69 (by decide) (by decide) rfl))))))))) (Nat.le_of_ble_eq_true rfl) (Nat.le_of_ble_eq_true rfl) (by omega) (by omega) ?_
  refine ac_ink [some (.inr (.inr (some 69))), some (.inl 1), some (.inl 0)] mt_215 (Nat.le_of_ble_eq_true rfl) rfl ?_
  refine ar_ldA rfl rfl ?_
  refine ar_get rfl (hs_eq (hs_ne (by decide) (hs_ne (by decide) (hs_eq (hs_eq (hs_eq (hs_eq (hr.at 69 (by decide) (by decide) rfl)))))))) rfl ?_
  refine ar_push rfl ?_
  refine ar_ldA rfl rfl ?_
  refine ar_get rfl (hs_eq (hs_ne (by decide) (hs_ne (by decide) (hs_eq (hs_eq (hs_eq (hs_eq (hr.at 69 (by decide) (by decide) rfl)))))))) rfl ?_
  refine ar_bink (z := 1430) rfl (by decide) ?_
  refine ar_ldI rfl rfl ?_
  refine ar_un rfl ?_
  refine ar_ast rfl (hs_ne (by decide) (hs_ne (by decide) (hs_ne (by decide) (hs_ne (by decide) (hs_ne (by decide) (hs_ne (by decide) (hs_ne (by decide) (hr.at 83 (by decide) (by decide) rfl)))))))) (by decide) (Nat.le_of_ble_eq_true rfl) ?_
  refine ar_ldA rfl rfl ?_
  refine ar_get rfl (hs_ne (by decide) (hs_eq (hs_ne (by decide) (hs_ne (by decide) (hs_eq (hs_eq (hs_eq (hs_eq (hr.at 69 (by decide) (by decide) rfl))))))))) rfl ?_
  refine ar_push rfl ?_
  refine ar_ldA rfl rfl ?_
  refine ar_get rfl (hs_ne (by decide) (hs_eq (hs_ne (by decide) (hs_ne (by decide) (hs_eq (hs_eq (hs_eq (hs_eq (hr.at 69 (by decide) (by decide) rfl))))))))) rfl ?_
  refine ar_bink (z := 1430) rfl (by decide) ?_
  refine ar_ldI rfl rfl ?_
  refine ar_ast rfl (hs_ne (by decide) (hs_ne (by decide) (hs_ne (by decide) (hs_ne (by decide) (hs_ne (by decide) (hs_ne (by decide) (hs_ne (by decide) (hs_ne (by decide) (hr.at 84 (by decide) (by decide) rfl))))))))) (by decide) (Nat.le_of_ble_eq_true rfl) ?_
  refine ar_ldA rfl rfl ?_
  refine ar_dup rfl rfl ?_
  refine ar_get rfl (hs_ne (by decide) (hs_ne (by decide) (hs_eq (hs_ne (by decide) (hs_ne (by decide) (hs_eq (hs_eq (hs_eq (hs_eq (hr.at 69 (by decide) (by decide) rfl)))))))))) rfl ?_
  refine ar_push rfl ?_
  refine ar_bink (z := 1) rfl (by decide) ?_
  refine ar_put rfl (hs_ne (by decide) (hs_ne (by decide) (hs_eq (hs_ne (by decide) (hs_ne (by decide) (hs_eq (hs_eq (hs_eq (hs_eq (hr.at 69 (by decide) (by decide) rfl)))))))))) (Nat.le_of_ble_eq_true rfl) rfl ?_
  refine ar_ret0 rfl ?_
  show aRun _ (aCall Mt _) _ 81 (_, [], _, _, _)
  refine ar_ret0 rfl ?_
  show aRun _ (aCall Mt _) _ 154 (_, [], _, _, _)
  refine ar_ret0 rfl ?_
  show aRun _ (aCall Mt _) _ 4 (_, [], _, _, _)
  refine ar_ldA rfl rfl ?_
  refine ar_get rfl (hs_eq (hs_ne (by decide) (hs_ne (by decide) (hs_eq (hs_ne (by decide) (hs_ne (by decide) (hs_eq (hs_eq (hs_eq (hs_eq (hr.at 69 (by decide) (by decide) rfl))))))))))) rfl ?_
  refine ar_if1t rfl (by decide) ?_
  refine ar_ret0 rfl ?_
  show aRun _ (aCall Mt _) _ 4 (_, [], _, _, _)
  refine ar_ldA rfl rfl ?_
  refine ar_get rfl (hs_eq (hs_ne (by decide) (hs_ne (by decide) (hs_eq (hs_ne (by decide) (hs_ne (by decide) (hs_eq (hs_eq (hs_eq (hs_eq (hr.at 69 (by decide) (by decide) rfl))))))))))) rfl ?_
  refine ar_if1t rfl (by decide) ?_
  refine ar_ret0 rfl ?_
  show aRun _ (aCall Mt _) _ 4 (_, [], _, _, _)
  refine ar_ldA rfl rfl ?_
  refine ar_inl (mc := 0) (ms := 0) rfl (rcv_of (hs_eq (hs_ne (by decide) (hs_ne (by decide) (hs_eq (hs_ne (by decide) (hs_ne (by decide) (hs_eq (hs_eq (hs_eq (hs_eq (hr.at 69 (by decide) (by decide) rfl)))))))))))) (Nat.le_of_ble_eq_true rfl) (Nat.le_of_ble_eq_true rfl) (by omega) (by omega) ?_
  refine ac_ink [some (.inr (.inr (some 69)))] mt_213 (Nat.le_of_ble_eq_true rfl) rfl ?_
  refine ar_ldA rfl rfl ?_
  refine ar_get rfl (hs_eq (hs_ne (by decide) (hs_ne (by decide) (hs_eq (hs_ne (by decide) (hs_ne (by decide) (hs_eq (hs_eq (hs_eq (hs_eq (hr.at 69 (by decide) (by decide) rfl))))))))))) rfl ?_
  refine ar_ldA rfl rfl ?_
  refine ar_get rfl (hs_eq (hs_ne (by decide) (hs_ne (by decide) (hs_eq (hs_ne (by decide) (hs_ne (by decide) (hs_eq (hs_eq (hs_eq (hs_eq (hr.at 69 (by decide) (by decide) rfl))))))))))) rfl ?_
  refine ar_if2t rfl (by decide) ?_
  refine ar_push rfl ?_
  refine ar_ret rfl rfl ?_
  show aRun _ (aCall Mt _) _ 8 (_, [_], _, _, _)
  refine ar_svIk [some (.inr (.inr (some 69))), some (.inl (-1))] rfl rfl ?_
  refine ar_ldA rfl rfl ?_
  refine ar_get rfl (hs_eq (hs_ne (by decide) (hs_ne (by decide) (hs_eq (hs_ne (by decide) (hs_ne (by decide) (hs_eq (hs_eq (hs_eq (hs_eq (hr.at 69 (by decide) (by decide) rfl))))))))))) rfl ?_
  refine ar_if1t rfl (by decide) ?_
  refine ar_ret0 rfl ?_
  show aRun _ (aCall Mt _) _ 4 (_, [], _, _, _)
  refine ar_ldA rfl rfl ?_
  refine ar_get rfl (hs_eq (hs_ne (by decide) (hs_ne (by decide) (hs_eq (hs_ne (by decide) (hs_ne (by decide) (hs_eq (hs_eq (hs_eq (hs_eq (hr.at 69 (by decide) (by decide) rfl))))))))))) rfl ?_
  refine ar_if1t rfl (by decide) ?_
  refine ar_ret0 rfl ?_
  show aRun _ (aCall Mt _) _ 4 (_, [], _, _, _)
  refine ar_ldA rfl rfl ?_
  refine ar_get rfl (hs_eq (hs_ne (by decide) (hs_ne (by decide) (hs_eq (hs_ne (by decide) (hs_ne (by decide) (hs_eq (hs_eq (hs_eq (hs_eq (hr.at 69 (by decide) (by decide) rfl))))))))))) rfl ?_
  refine ar_if1t rfl (by decide) ?_
  refine ar_ret0 rfl ?_
  show aRun _ (aCall Mt _) _ 27 (_, [], _, _, _)
  refine ar_ldA rfl rfl ?_
  refine ar_get rfl (hs_eq (hs_ne (by decide) (hs_ne (by decide) (hs_eq (hs_ne (by decide) (hs_ne (by decide) (hs_eq (hs_eq (hs_eq (hs_eq (hr.at 69 (by decide) (by decide) rfl))))))))))) rfl ?_
  refine ar_if1t rfl (by decide) ?_
  refine ar_ldA rfl rfl ?_
  refine ar_get rfl (hs_eq (hs_ne (by decide) (hs_ne (by decide) (hs_eq (hs_ne (by decide) (hs_ne (by decide) (hs_eq (hs_eq (hs_eq (hs_eq (hr.at 69 (by decide) (by decide) rfl))))))))))) rfl ?_
  refine ar_ldI rfl rfl ?_
  refine ar_ldA rfl rfl ?_
  refine ar_get rfl (hs_eq (hs_ne (by decide) (hs_ne (by decide) (hs_eq (hs_ne (by decide) (hs_ne (by decide) (hs_eq (hs_eq (hs_eq (hs_eq (hr.at 69 (by decide) (by decide) rfl))))))))))) rfl ?_
  refine ar_un rfl ?_
  refine ar_ast rfl (hs_ne (by decide) (hs_ne (by decide) (hs_ne (by decide) (hs_ne (by decide) (hs_ne (by decide) (hs_ne (by decide) (hs_ne (by decide) (hs_ne (by decide) (hs_ne (by decide) (hs_ne (by decide) (hr.at 87 (by decide) (by decide) rfl))))))))))) (by decide) (Nat.le_of_ble_eq_true rfl) ?_
  refine ar_ldA rfl rfl ?_
  refine ar_get rfl (hs_ne (by decide) (hs_eq (hs_ne (by decide) (hs_ne (by decide) (hs_eq (hs_ne (by decide) (hs_ne (by decide) (hs_eq (hs_eq (hs_eq (hs_eq (hr.at 69 (by decide) (by decide) rfl)))))))))))) rfl ?_
  refine ar_push rfl ?_
  refine ar_dup2 rfl rfl rfl ?_
  refine ar_ald rfl (hs_ne (by decide) (hs_ne (by decide) (hs_ne (by decide) (hs_ne (by decide) (hs_ne (by decide) (hs_ne (by decide) (hs_eq (hs_ne (by decide) (hs_ne (by decide) (hs_ne (by decide) (hs_ne (by decide) (hr.at 85 (by decide) (by decide) rfl)))))))))))) (by decide) rfl ?_
  refine ar_push rfl ?_
  refine ar_bink (z := 1) rfl (by decide) ?_
  refine ar_ast rfl (hs_ne (by decide) (hs_ne (by decide) (hs_ne (by decide) (hs_ne (by decide) (hs_ne (by decide) (hs_ne (by decide) (hs_eq (hs_ne (by decide) (hs_ne (by decide) (hs_ne (by decide) (hs_ne (by decide) (hr.at 85 (by decide) (by decide) rfl)))))))))))) (by decide) (Nat.le_of_ble_eq_true rfl) ?_
  refine ar_ret0 rfl ?_
  show aRun _ (aCall Mt _) _ 54 (_, [], _, _, _)
  refine ar_ldA rfl rfl ?_
  refine ar_get rfl (hs_ne (by decide) (hs_ne (by decide) (hs_eq (hs_ne (by decide) (hs_ne (by decide) (hs_eq (hs_ne (by decide) (hs_ne (by decide) (hs_eq (hs_eq (hs_eq (hs_eq (hr.at 69 (by decide) (by decide) rfl))))))))))))) rfl ?_
  refine ar_if1t rfl (by decide) ?_
  refine ar_ldA rfl rfl ?_
  refine ar_get rfl (hs_ne (by decide) (hs_ne (by decide) (hs_eq (hs_ne (by decide) (hs_ne (by decide) (hs_eq (hs_ne (by decide) (hs_ne (by decide) (hs_eq (hs_eq (hs_eq (hs_eq (hr.at 69 (by decide) (by decide) rfl))))))))))))) rfl ?_
  refine ar_if1t rfl (by decide) ?_
  refine ar_ldA rfl rfl ?_
  refine ar_push rfl ?_
  refine ar_put rfl (hs_ne (by decide) (hs_ne (by decide) (hs_eq (hs_ne (by decide) (hs_ne (by decide) (hs_eq (hs_ne (by decide) (hs_ne (by decide) (hs_eq (hs_eq (hs_eq (hs_eq (hr.at 69 (by decide) (by decide) rfl))))))))))))) (Nat.le_of_ble_eq_true rfl) rfl ?_
  refine ar_ldA rfl rfl ?_
  refine ar_get rfl (hs_eq (hs_ne (by decide) (hs_ne (by decide) (hs_eq (hs_ne (by decide) (hs_ne (by decide) (hs_eq (hs_ne (by decide) (hs_ne (by decide) (hs_eq (hs_eq (hs_eq (hs_eq (hr.at 69 (by decide) (by decide) rfl)))))))))))))) rfl ?_
  refine ar_if1f rfl (by decide) ?_
  refine ar_push rfl ?_
  refine ar_ldA rfl rfl ?_
  refine ar_get rfl (hs_eq (hs_ne (by decide) (hs_ne (by decide) (hs_eq (hs_ne (by decide) (hs_ne (by decide) (hs_eq (hs_ne (by decide) (hs_ne (by decide) (hs_eq (hs_eq (hs_eq (hs_eq (hr.at 69 (by decide) (by decide) rfl)))))))))))))) rfl ?_
  refine ar_bink (z := (-100)) rfl (by decide) ?_
  refine ar_ret rfl rfl ?_
  exact ⟨rfl, hJ _ _ _⟩
set_option maxRecDepth 20000 in
set_option maxHeartbeats 4000000 in
theorem p1_7_16 (J : aH → Nat → Nat → Prop) (hJ : ∀ h a b, J h a b) (kc ks : Nat) (hkc : 1000 ≤ kc) (hks : 100000 ≤ ks) : aPairI 0 69 131 227 [.inl 16] J hF kc ks := by
  refine ⟨0, 0, _, by omega, by omega, rfl, ?_⟩
  refine ac_ink [some (.inr (.inr (some 0))), some (.inl 16), none, none] mt_131 (Nat.le_of_ble_eq_true rfl) rfl ?_
  refine ar_ldA rfl rfl ?_
  refine ar_ldI rfl rfl ?_
  refine ar_inl (mc := 0) (ms := 0) rfl (rcv_of rfl) (Nat.le_of_ble_eq_true rfl) (Nat.le_of_ble_eq_true rfl) (by omega) (by omega) ?_
  refine ac_ink [some (.inr (.inr (some 0))), some (.inl 16)] mt_166 (Nat.le_of_ble_eq_true rfl) rfl ?_
  refine ar_ldI rfl rfl ?_
  refine ar_if1t rfl (by decide) ?_
  refine ar_ldI rfl rfl ?_
  refine ar_push rfl ?_
  refine ar_if2t rfl (by decide) ?_
  refine ar_ldA rfl rfl ?_
  refine ar_get rfl rfl rfl ?_
  refine ar_ldI rfl rfl ?_
  refine ar_push rfl ?_
  refine ar_bink (z := 6) rfl (by decide) ?_
  refine ar_inl (mc := 0) (ms := 0) rfl (rcv_of rfl) (Nat.le_of_ble_eq_true rfl) (Nat.le_of_ble_eq_true rfl) (by omega) (by omega) ?_
  refine ac_ink [some (.inr (.inr (some 15))), some (.inl 6)] mt_7 (Nat.le_of_ble_eq_true rfl) rfl ?_
  refine ar_ldI rfl rfl ?_
  refine ar_inl (mc := 0) (ms := 0) rfl rfl (Nat.le_of_ble_eq_true rfl) (Nat.le_of_ble_eq_true rfl) (by omega) (by omega) ?_
  refine ac_ink [some (.inl 6)] mt_175 (Nat.le_of_ble_eq_true rfl) rfl ?_
  refine ar_ldI rfl rfl ?_
  refine ar_push rfl ?_
  refine ar_push rfl ?_
  refine ar_callv rfl rfl (Nat.le_of_ble_eq_true rfl) (Nat.le_of_ble_eq_true rfl) rfl (sp_within _ _ _ _ _) ?_
  refine ar_ret rfl (bi_ret _) ?_
  show aRun _ (aCall Mt _) _ 4 (_, [_], _, _, _)
  refine ar_if1f rfl (bi_e0f (by decide)) ?_
  refine ar_ldA rfl rfl ?_
  refine ar_get rfl rfl rfl ?_
  refine ar_ldI rfl rfl ?_
  refine ar_aldA rfl rfl (by decide) rfl ?_
  refine ar_go rfl ?_
  refine ar_ret rfl rfl ?_
  show aRun _ (aCall Mt _) _ 36 (_, [_], _, _, _)
  refine ar_ret rfl rfl ?_
  show aRun _ (aCall Mt _) _ 5 (_, [_], _, _, _)
  refine ar_svAk [some (.inr (.inr (some 0))), some (.inl 16), some (.inr (.inr (some 35))), none] rfl rfl ?_
  refine ar_ldA rfl rfl ?_
  refine ar_nulS rfl ?_
  refine ar_ldA rfl rfl ?_
  refine ar_get rfl rfl rfl ?_
  refine ar_ldA rfl rfl ?_
  refine ar_inl (mc := 0) (ms := 0) rfl (rcv_of rfl) (Nat.le_of_ble_eq_true rfl) (Nat.le_of_ble_eq_true rfl) (by omega) (by omega) ?_
  refine ac_ink [some (.inr (.inr (some 5))), some (.inr (.inr (some 35))), none] mt_94 (Nat.le_of_ble_eq_true rfl) rfl ?_
  refine ar_ldA rfl rfl ?_
  refine ar_push rfl ?_
  refine ar_put rfl rfl (Nat.le_of_ble_eq_true rfl) rfl ?_
  refine ar_ldA rfl rfl ?_
  refine ar_push rfl ?_
  refine ar_put rfl (hs_eq rfl) (Nat.le_of_ble_eq_true rfl) rfl ?_
  refine ar_ldA rfl rfl ?_
  refine ar_push rfl ?_
  refine ar_put rfl (hs_eq (hs_eq rfl)) (Nat.le_of_ble_eq_true rfl) rfl ?_
  refine ar_ldA rfl rfl ?_
  refine ar_inl (mc := 0) (ms := 0) rfl (rcv_of (hs_eq (hs_eq (hs_eq rfl)))) (Nat.le_of_ble_eq_true rfl) (Nat.le_of_ble_eq_true rfl) (by omega) (by omega) ?_
  refine ac_ink [some (.inr (.inr (some 5))), none] mt_100 (Nat.le_of_ble_eq_true rfl) rfl ?_
  refine ar_ldA rfl rfl ?_
  refine ar_push rfl ?_
  refine ar_inl (mc := 0) (ms := 0) rfl (rcv_of (hs_eq (hs_eq (hs_eq rfl)))) (Nat.le_of_ble_eq_true rfl) (Nat.le_of_ble_eq_true rfl) (by omega) (by omega) ?_
  refine ac_ink [some (.inr (.inr (some 5))), some (.inl 0), none] mt_101 (Nat.le_of_ble_eq_true rfl) rfl ?_
  refine ar_ldA rfl rfl ?_
  refine ar_ldI rfl rfl ?_
  refine ar_inl (mc := 0) (ms := 0) rfl (rcv_of (hs_eq (hs_eq (hs_eq rfl)))) (Nat.le_of_ble_eq_true rfl) (Nat.le_of_ble_eq_true rfl) (by omega) (by omega) ?_
  refine ac_ink [some (.inr (.inr (some 5))), some (.inl 0), none] mt_102 (Nat.le_of_ble_eq_true rfl) rfl ?_
  refine ar_ldA rfl rfl ?_
  refine ar_ldI rfl rfl ?_
  refine ar_inl (mc := 0) (ms := 0) rfl (rcv_of (hs_eq (hs_eq (hs_eq rfl)))) (Nat.le_of_ble_eq_true rfl) (Nat.le_of_ble_eq_true rfl) (by omega) (by omega) ?_
  refine ac_ink [some (.inr (.inr (some 5))), some (.inl 0), none] mt_103 (Nat.le_of_ble_eq_true rfl) rfl ?_
  refine ar_ldA rfl rfl ?_
  refine ar_ldI rfl rfl ?_
  refine ar_inl (mc := 0) (ms := 0) rfl (rcv_of (hs_eq (hs_eq (hs_eq rfl)))) (Nat.le_of_ble_eq_true rfl) (Nat.le_of_ble_eq_true rfl) (by omega) (by omega) ?_
  refine ac_ink [some (.inr (.inr (some 5))), some (.inl 0), none, none] mt_104 (Nat.le_of_ble_eq_true rfl) rfl ?_
  refine ar_ldA rfl rfl ?_
  refine ar_ldI rfl rfl ?_
  refine ar_inl (mc := 0) (ms := 0) rfl (rcv_of (hs_eq (hs_eq (hs_eq rfl)))) (Nat.le_of_ble_eq_true rfl) (Nat.le_of_ble_eq_true rfl) (by omega) (by omega) ?_
  refine ac_ink [some (.inr (.inr (some 5))), some (.inl 0), none, none] mt_105 (Nat.le_of_ble_eq_true rfl) rfl ?_
  refine ar_ldA rfl rfl ?_
  refine ar_ldI rfl rfl ?_
  refine ar_inl (mc := 0) (ms := 0) rfl (rcv_of (hs_eq (hs_eq (hs_eq rfl)))) (Nat.le_of_ble_eq_true rfl) (Nat.le_of_ble_eq_true rfl) (by omega) (by omega) ?_
  refine ac_ink [some (.inr (.inr (some 5))), some (.inl 0), none] mt_106 (Nat.le_of_ble_eq_true rfl) rfl ?_
  refine ar_ldA rfl rfl ?_
  refine ar_inl (mc := 0) (ms := 0) rfl (rcv_of (hs_eq (hs_eq (hs_eq rfl)))) (Nat.le_of_ble_eq_true rfl) (Nat.le_of_ble_eq_true rfl) (by omega) (by omega) ?_
  refine ac_ink [some (.inr (.inr (some 5)))] mt_95 (Nat.le_of_ble_eq_true rfl) rfl ?_
  refine ar_ldA rfl rfl ?_
  refine ar_get rfl (hs_eq (hs_eq (hs_eq rfl))) rfl ?_
  refine ar_if1f rfl (by decide) ?_
  refine ar_ldA rfl rfl ?_
  refine ar_get rfl (hs_eq (hs_eq (hs_eq rfl))) rfl ?_
  refine ar_ldA rfl rfl ?_
  refine ar_get rfl (hs_eq (hs_eq (hs_eq rfl))) rfl ?_
  refine ar_if2t rfl (by decide) ?_
  refine ar_push rfl ?_
  refine ar_ret rfl rfl ?_
  show aRun _ (aCall Mt _) _ 4 (_, [_], _, _, _)
  refine ar_svIk [some (.inr (.inr (some 5))), some (.inl 0), some (.inl (-1))] rfl rfl ?_
  refine ar_ldI rfl rfl ?_
  refine ar_push rfl ?_
  refine ar_push rfl ?_
  refine ar_callv rfl rfl (Nat.le_of_ble_eq_true rfl) (Nat.le_of_ble_eq_true rfl) rfl (sp_within _ _ _ _ _) ?_
  refine ar_if1t rfl (bi_e0t (by decide)) ?_
  refine ar_ldI rfl rfl ?_
  refine ar_push rfl ?_
  refine ar_push rfl ?_
  refine ar_callv rfl rfl (Nat.le_of_ble_eq_true rfl) (Nat.le_of_ble_eq_true rfl) rfl (sp_within _ _ _ _ _) ?_
  refine ar_if1t rfl (bi_e0t (by decide)) ?_
  refine ar_ldI rfl rfl ?_
  refine ar_push rfl ?_
  refine ar_if2t rfl (by decide) ?_
  refine ar_ldA rfl rfl ?_
  refine ar_push rfl ?_
  refine ar_inl (mc := 0) (ms := 0) rfl (rcv_of (hs_eq (hs_eq (hs_eq rfl)))) (Nat.le_of_ble_eq_true rfl) (Nat.le_of_ble_eq_true rfl) (by omega) (by omega) ?_
  refine ac_ink [some (.inr (.inr (some 5))), some (.inl 40)] mt_96 (Nat.le_of_ble_eq_true rfl) rfl ?_
  refine ar_ldA rfl rfl ?_
  refine ar_inl (mc := 0) (ms := 0) rfl (rcv_of (hs_eq (hs_eq (hs_eq rfl)))) (Nat.le_of_ble_eq_true rfl) (Nat.le_of_ble_eq_true rfl) (by omega) (by omega) ?_
  refine ac_ink [some (.inr (.inr (some 5)))] mt_95 (Nat.le_of_ble_eq_true rfl) rfl ?_
  refine ar_ldA rfl rfl ?_
  refine ar_get rfl (hs_eq (hs_eq (hs_eq rfl))) rfl ?_
  refine ar_if1f rfl (by decide) ?_
  refine ar_ldA rfl rfl ?_
  refine ar_get rfl (hs_eq (hs_eq (hs_eq rfl))) rfl ?_
  refine ar_ldA rfl rfl ?_
  refine ar_get rfl (hs_eq (hs_eq (hs_eq rfl))) rfl ?_
  refine ar_if2t rfl (by decide) ?_
  refine ar_push rfl ?_
  refine ar_ret rfl rfl ?_
  show aRun _ (aCall Mt _) _ 4 (_, [_], _, _, _)
  refine ar_ldI rfl rfl ?_
  refine ar_if2f rfl (by decide) ?_
  refine ar_push rfl ?_
  refine ar_ret rfl rfl ?_
  show aRun _ (aCall Mt _) _ 88 (_, [_], _, _, _)
  refine ar_if1t rfl (by decide) ?_
  refine ar_ldA rfl rfl ?_
  refine ar_push rfl ?_
  refine ar_inl (mc := 0) (ms := 0) rfl (rcv_of (hs_eq (hs_eq (hs_eq rfl)))) (Nat.le_of_ble_eq_true rfl) (Nat.le_of_ble_eq_true rfl) (by omega) (by omega) ?_
  refine ac_ink [some (.inr (.inr (some 5))), some (.inl 33)] mt_96 (Nat.le_of_ble_eq_true rfl) rfl ?_
  refine ar_ldA rfl rfl ?_
  refine ar_inl (mc := 0) (ms := 0) rfl (rcv_of (hs_eq (hs_eq (hs_eq rfl)))) (Nat.le_of_ble_eq_true rfl) (Nat.le_of_ble_eq_true rfl) (by omega) (by omega) ?_
  refine ac_ink [some (.inr (.inr (some 5)))] mt_95 (Nat.le_of_ble_eq_true rfl) rfl ?_
  refine ar_ldA rfl rfl ?_
  refine ar_get rfl (hs_eq (hs_eq (hs_eq rfl))) rfl ?_
  refine ar_if1f rfl (by decide) ?_
  refine ar_ldA rfl rfl ?_
  refine ar_get rfl (hs_eq (hs_eq (hs_eq rfl))) rfl ?_
  refine ar_ldA rfl rfl ?_
  refine ar_get rfl (hs_eq (hs_eq (hs_eq rfl))) rfl ?_
  refine ar_if2t rfl (by decide) ?_
  refine ar_push rfl ?_
  refine ar_ret rfl rfl ?_
  show aRun _ (aCall Mt _) _ 4 (_, [_], _, _, _)
  refine ar_ldI rfl rfl ?_
  refine ar_if2f rfl (by decide) ?_
  refine ar_push rfl ?_
  refine ar_ret rfl rfl ?_
  show aRun _ (aCall Mt _) _ 120 (_, [_], _, _, _)
  refine ar_if1t rfl (by decide) ?_
  refine ar_ldA rfl rfl ?_
  refine ar_push rfl ?_
  refine ar_inl (mc := 0) (ms := 0) rfl (rcv_of (hs_eq (hs_eq (hs_eq rfl)))) (Nat.le_of_ble_eq_true rfl) (Nat.le_of_ble_eq_true rfl) (by omega) (by omega) ?_
  refine ac_ink [some (.inr (.inr (some 5))), some (.inl 45)] mt_96 (Nat.le_of_ble_eq_true rfl) rfl ?_
  refine ar_ldA rfl rfl ?_
  refine ar_inl (mc := 0) (ms := 0) rfl (rcv_of (hs_eq (hs_eq (hs_eq rfl)))) (Nat.le_of_ble_eq_true rfl) (Nat.le_of_ble_eq_true rfl) (by omega) (by omega) ?_
  refine ac_ink [some (.inr (.inr (some 5)))] mt_95 (Nat.le_of_ble_eq_true rfl) rfl ?_
  refine ar_ldA rfl rfl ?_
  refine ar_get rfl (hs_eq (hs_eq (hs_eq rfl))) rfl ?_
  refine ar_if1f rfl (by decide) ?_
  refine ar_ldA rfl rfl ?_
  refine ar_get rfl (hs_eq (hs_eq (hs_eq rfl))) rfl ?_
  refine ar_ldA rfl rfl ?_
  refine ar_get rfl (hs_eq (hs_eq (hs_eq rfl))) rfl ?_
  refine ar_if2t rfl (by decide) ?_
  refine ar_push rfl ?_
  refine ar_ret rfl rfl ?_
  show aRun _ (aCall Mt _) _ 4 (_, [_], _, _, _)
  refine ar_ldI rfl rfl ?_
  refine ar_if2f rfl (by decide) ?_
  refine ar_push rfl ?_
  refine ar_ret rfl rfl ?_
  show aRun _ (aCall Mt _) _ 145 (_, [_], _, _, _)
  refine ar_if1t rfl (by decide) ?_
  refine ar_ldA rfl rfl ?_
  refine ar_inl (mc := 0) (ms := 0) rfl (rcv_of (hs_eq (hs_eq (hs_eq rfl)))) (Nat.le_of_ble_eq_true rfl) (Nat.le_of_ble_eq_true rfl) (by omega) (by omega) ?_
  refine ac_ink [some (.inr (.inr (some 5)))] mt_99 (Nat.le_of_ble_eq_true rfl) rfl ?_
  refine ar_ldA rfl rfl ?_
  refine ar_get rfl (hs_eq (hs_eq (hs_eq rfl))) rfl ?_
  refine ar_push rfl ?_
  refine ar_if2f rfl (by decide) ?_
  refine ar_ldA rfl rfl ?_
  refine ar_ldA rfl rfl ?_
  refine ar_get rfl (hs_eq (hs_eq (hs_eq rfl))) rfl ?_
  refine ar_put rfl (hs_eq (hs_eq (hs_eq rfl))) (Nat.le_of_ble_eq_true rfl) rfl ?_
  refine ar_ret0 rfl ?_
  show aRun _ (aCall Mt _) _ 168 (_, [], _, _, _)
  refine ar_ret0 rfl ?_
  show aRun _ (aCall Mt _) _ 5 (_, [], _, _, _)
  refine ar_push rfl ?_
  refine ar_svIk [some (.inr (.inr (some 5))), some (.inl 0), some (.inl 0), none] rfl rfl ?_
  refine ar_ldI rfl rfl ?_
  refine ar_ldA rfl rfl ?_
  refine ar_get rfl (hs_eq (hs_eq (hs_eq (hs_eq rfl)))) rfl ?_
  refine ar_if2t rfl (by decide) ?_
  refine ar_ret0 rfl ?_
  show aRun _ (aCall Mt _) _ 5 (_, [], _, _, _)
  refine ar_push rfl ?_
  refine ar_svIk [some (.inr (.inr (some 5))), some (.inl 0), some (.inl 0), none] rfl rfl ?_
  refine ar_ldI rfl rfl ?_
  refine ar_ldA rfl rfl ?_
  refine ar_get rfl (hs_eq (hs_eq (hs_eq (hs_eq rfl)))) rfl ?_
  refine ar_if2t rfl (by decide) ?_
  refine ar_ret0 rfl ?_
  show aRun _ (aCall Mt _) _ 5 (_, [], _, _, _)
  refine ar_ldA rfl rfl ?_
  refine ar_push rfl ?_
  refine ar_inl (mc := 0) (ms := 0) rfl (rcv_of (hs_eq (hs_eq (hs_eq (hs_eq rfl))))) (Nat.le_of_ble_eq_true rfl) (Nat.le_of_ble_eq_true rfl) (by omega) (by omega) ?_
  refine ac_ink [some (.inr (.inr (some 5))), some (.inl 60)] mt_97 (Nat.le_of_ble_eq_true rfl) rfl ?_
  refine ar_ldA rfl rfl ?_
  refine ar_get rfl (hs_eq (hs_eq (hs_eq (hs_eq rfl)))) rfl ?_
  refine ar_push rfl ?_
  refine ar_if2t rfl (by decide) ?_
  refine ar_push rfl ?_
  refine ar_ret rfl rfl ?_
  show aRun _ (aCall Mt _) _ 11 (_, [_], _, _, _)
  refine ar_if1t rfl (by decide) ?_
  refine ar_ldA rfl rfl ?_
  refine ar_push rfl ?_
  refine ar_inl (mc := 0) (ms := 0) rfl (rcv_of (hs_eq (hs_eq (hs_eq (hs_eq rfl))))) (Nat.le_of_ble_eq_true rfl) (Nat.le_of_ble_eq_true rfl) (by omega) (by omega) ?_
  refine ac_ink [some (.inr (.inr (some 5))), some (.inl 61)] mt_97 (Nat.le_of_ble_eq_true rfl) rfl ?_
  refine ar_ldA rfl rfl ?_
  refine ar_get rfl (hs_eq (hs_eq (hs_eq (hs_eq rfl)))) rfl ?_
  refine ar_push rfl ?_
  refine ar_if2t rfl (by decide) ?_
  refine ar_push rfl ?_
  refine ar_ret rfl rfl ?_
  show aRun _ (aCall Mt _) _ 25 (_, [_], _, _, _)
  refine ar_if1t rfl (by decide) ?_
  refine ar_ldA rfl rfl ?_
  refine ar_push rfl ?_
  refine ar_inl (mc := 0) (ms := 0) rfl (rcv_of (hs_eq (hs_eq (hs_eq (hs_eq rfl))))) (Nat.le_of_ble_eq_true rfl) (Nat.le_of_ble_eq_true rfl) (by omega) (by omega) ?_
  refine ac_ink [some (.inr (.inr (some 5))), some (.inl 62)] mt_97 (Nat.le_of_ble_eq_true rfl) rfl ?_
  refine ar_ldA rfl rfl ?_
  refine ar_get rfl (hs_eq (hs_eq (hs_eq (hs_eq rfl)))) rfl ?_
  refine ar_push rfl ?_
  refine ar_if2t rfl (by decide) ?_
  refine ar_push rfl ?_
  refine ar_ret rfl rfl ?_
  show aRun _ (aCall Mt _) _ 39 (_, [_], _, _, _)
  refine ar_if1t rfl (by decide) ?_
  refine ar_push rfl ?_
  refine ar_svIk [some (.inr (.inr (some 5))), some (.inl 0), some (.inl 15)] rfl rfl ?_
  refine ar_ldI rfl rfl ?_
  refine ar_push rfl ?_
  refine ar_if2f rfl (by decide) ?_
  refine ar_ret0 rfl ?_
  show aRun _ (aCall Mt _) _ 5 (_, [], _, _, _)
  refine ar_push rfl ?_
  refine ar_svIk [some (.inr (.inr (some 5))), some (.inl 0), some (.inl 0)] rfl rfl ?_
  refine ar_ldI rfl rfl ?_
  refine ar_ldA rfl rfl ?_
  refine ar_get rfl (hs_eq (hs_eq (hs_eq (hs_eq rfl)))) rfl ?_
  refine ar_if2t rfl (by decide) ?_
  refine ar_ret0 rfl ?_
  show aRun _ (aCall Mt _) _ 5 (_, [], _, _, _)
  refine ar_push rfl ?_
  refine ar_svIk [some (.inr (.inr (some 5))), some (.inl 0), some (.inl 0)] rfl rfl ?_
  refine ar_ldI rfl rfl ?_
  refine ar_ldA rfl rfl ?_
  refine ar_get rfl (hs_eq (hs_eq (hs_eq (hs_eq rfl)))) rfl ?_
  refine ar_if2t rfl (by decide) ?_
  refine ar_ret0 rfl ?_
  show aRun _ (aCall Mt _) _ 5 (_, [], _, _, _)
  refine ar_ldA rfl rfl ?_
  refine ar_push rfl ?_
  refine ar_inl (mc := 0) (ms := 0) rfl (rcv_of (hs_eq (hs_eq (hs_eq (hs_eq rfl))))) (Nat.le_of_ble_eq_true rfl) (Nat.le_of_ble_eq_true rfl) (by omega) (by omega) ?_
  refine ac_ink [some (.inr (.inr (some 5))), some (.inl 63)] mt_97 (Nat.le_of_ble_eq_true rfl) rfl ?_
  refine ar_ldA rfl rfl ?_
  refine ar_get rfl (hs_eq (hs_eq (hs_eq (hs_eq rfl)))) rfl ?_
  refine ar_push rfl ?_
  refine ar_if2t rfl (by decide) ?_
  refine ar_push rfl ?_
  refine ar_ret rfl rfl ?_
  show aRun _ (aCall Mt _) _ 11 (_, [_], _, _, _)
  refine ar_if1f rfl (by decide) ?_
  refine ar_ldA rfl rfl ?_
  refine ar_push rfl ?_
  refine ar_push rfl ?_
  refine ar_inl (mc := 0) (ms := 0) rfl (rcv_of (hs_eq (hs_eq (hs_eq (hs_eq rfl))))) (Nat.le_of_ble_eq_true rfl) (Nat.le_of_ble_eq_true rfl) (by omega) (by omega) ?_
  refine ac_ink [some (.inr (.inr (some 5))), some (.inl 15), some (.inl 0)] mt_98 (Nat.le_of_ble_eq_true rfl) rfl ?_
  refine ar_ldA rfl rfl ?_
  refine ar_get rfl (hs_eq (hs_eq (hs_eq (hs_eq rfl)))) rfl ?_
  refine ar_ldA rfl rfl ?_
  refine ar_get rfl (hs_eq (hs_eq (hs_eq (hs_eq rfl)))) rfl ?_
  refine ar_len rfl (hs_ne (by decide) (hs_ne (by decide) (hs_ne (by decide) (hs_ne (by decide) rfl)))) ?_
  refine ar_if2t rfl (by decide) ?_
  refine ar_ldA rfl rfl ?_
  refine ar_get rfl (hs_eq (hs_eq (hs_eq (hs_eq rfl)))) rfl ?_
  refine ar_ldA rfl rfl ?_
  refine ar_get rfl (hs_eq (hs_eq (hs_eq (hs_eq rfl)))) rfl ?_
  refine ar_ldI rfl rfl ?_
  refine ar_ldI rfl rfl ?_
  refine ar_inl (mc := 0) (ms := 0) rfl rfl (Nat.le_of_ble_eq_true rfl) (Nat.le_of_ble_eq_true rfl) (by omega) (by omega) ?_
  refine ac_ink [some (.inl 15), some (.inl 0)] mt_111 (Nat.le_of_ble_eq_true rfl) rfl ?_
  refine ar_ldI rfl rfl ?_
  refine ar_push rfl ?_
  refine ar_bink (z := 0) rfl (by decide) ?_
  refine ar_ldI rfl rfl ?_
  refine ar_bink (z := 15) rfl (by decide) ?_
  refine ar_ret rfl rfl ?_
  show aRun _ (aCall Mt _) _ 26 (_, [_, _, _], _, _, _)
  refine ar_ast rfl (hs_ne (by decide) (hs_ne (by decide) (hs_ne (by decide) (hs_ne (by decide) rfl)))) (by decide) (Nat.le_of_ble_eq_true rfl) ?_
  refine ar_ldA rfl rfl ?_
  refine ar_dup rfl rfl ?_
  refine ar_get rfl (hs_ne (by decide) (hs_eq (hs_eq (hs_eq (hs_eq rfl))))) rfl ?_
  refine ar_push rfl ?_
  refine ar_bink (z := 1) rfl (by decide) ?_
  refine ar_put rfl (hs_ne (by decide) (hs_eq (hs_eq (hs_eq (hs_eq rfl))))) (Nat.le_of_ble_eq_true rfl) rfl ?_
  refine ar_ret0 rfl ?_
  show aRun _ (aCall Mt _) _ 21 (_, [], _, _, _)
  refine ar_ret0 rfl ?_
  show aRun _ (aCall Mt _) _ 19 (_, [], _, _, _)
  refine ar_push rfl ?_
  refine ar_svIk [some (.inr (.inr (some 5))), some (.inr (.inr (some 35))), some (.inl 0)] rfl rfl ?_
  refine ar_ldI rfl rfl ?_
  refine ar_ldA rfl rfl ?_
  refine ar_get rfl (hs_eq (hs_ne (by decide) (hs_eq (hs_eq (hs_eq (hs_eq rfl)))))) rfl ?_
  refine ar_if2t rfl (by decide) ?_
  refine ar_ldA rfl rfl ?_
  refine ar_get rfl (hs_eq (hs_ne (by decide) (hs_eq (hs_eq (hs_eq (hs_eq rfl)))))) rfl ?_
  refine ar_push rfl ?_
  refine ar_if2t rfl (by decide) ?_
  refine ar_ldA rfl rfl ?_
  refine ar_get rfl (hs_eq (hs_ne (by decide) (hs_eq (hs_eq (hs_eq (hs_eq rfl)))))) rfl ?_
  refine ar_push rfl ?_
  refine ar_if2t rfl (by decide) ?_
  refine ar_ldA rfl rfl ?_
  refine ar_push rfl ?_
  refine ar_put rfl (hs_eq (hs_ne (by decide) (hs_eq (hs_eq (hs_eq (hs_eq rfl)))))) (Nat.le_of_ble_eq_true rfl) rfl ?_
  refine ar_ldA rfl rfl ?_
  refine ar_get rfl (hs_eq (hs_eq (hs_ne (by decide) (hs_eq (hs_eq (hs_eq (hs_eq rfl))))))) rfl ?_
  refine ar_ret rfl rfl ?_
  show aRun _ (aCall Mt _) _ 20 (_, [_], _, _, _)
  refine ar_svIk [some (.inr (.inr (some 0))), some (.inl 16), some (.inr (.inr (some 35))), some (.inl 0)] rfl rfl ?_
  refine ar_ldI rfl rfl ?_
  refine ar_push rfl ?_
  refine ar_if2f rfl (by decide) ?_
  refine ar_push rfl ?_
  refine ar_ldI rfl rfl ?_
  refine ar_bink (z := (-100)) rfl (by decide) ?_
  refine ar_ret rfl rfl ?_
  refine ⟨_, 0, 0, _, rfl, Nat.zero_le _, Nat.zero_le _, (hs_ne (by decide) (hs_ne (by decide) (hs_ne (by decide) (hs_ne (by decide) (hs_ne (by decide) (hs_ne (by decide) (hs_ne (by decide) rfl))))))), ?_⟩
  refine rgen (((((((rFr_F.sets (by decide)).sets (by decide)).sets (by decide)).sets (by decide)).sets (by decide)).sets (by decide)).sets (by decide)) (fun g hr => ?_)
  refine ac_ink [some (.inr (.inr (some 69))), some (.inl 16), none, none] mt_227 (Nat.le_of_ble_eq_true rfl) rfl ?_
  refine ar_ldI rfl rfl ?_
  refine ar_push rfl ?_
  refine ar_push rfl ?_
  refine ar_callv rfl rfl (Nat.le_of_ble_eq_true rfl) (Nat.le_of_ble_eq_true rfl) rfl (sp_in _ _ _ _ _) ?_
  refine ar_if1f rfl (bi_n0f (by decide)) ?_
  refine ar_ldI rfl rfl ?_
  refine ar_push rfl ?_
  refine ar_push rfl ?_
  refine ar_callv rfl rfl (Nat.le_of_ble_eq_true rfl) (Nat.le_of_ble_eq_true rfl) rfl (sp_in _ _ _ _ _) ?_
  refine ar_if1t rfl (bi_n0t (by decide)) ?_
  refine ar_ldA rfl rfl ?_
  refine ar_push rfl ?_
  refine ar_put rfl (hr.at 69 (by decide) (by decide) rfl) (Nat.le_of_ble_eq_true rfl) rfl ?_
  refine ar_ldA rfl rfl ?_
  refine ar_push rfl ?_
  refine ar_put rfl (hs_eq (hr.at 69 (by decide) (by decide) rfl)) (Nat.le_of_ble_eq_true rfl) rfl ?_
  refine ar_ldA rfl rfl ?_
  refine ar_push rfl ?_
  refine ar_put rfl (hs_eq (hs_eq (hr.at 69 (by decide) (by decide) rfl))) (Nat.le_of_ble_eq_true rfl) rfl ?_
  refine ar_ldA rfl rfl ?_
  refine ar_push rfl ?_
  refine ar_put rfl (hs_eq (hs_eq (hs_eq (hr.at 69 (by decide) (by decide) rfl)))) (Nat.le_of_ble_eq_true rfl) rfl ?_
  refine ar_ldA rfl rfl ?_
  refine ar_get rfl (hs_eq (hs_eq (hs_eq (hs_eq (hr.at 69 (by decide) (by decide) rfl))))) rfl ?_
  refine ar_push rfl ?_
  refine ar_push rfl ?_
  refine ar_ast rfl (hs_ne (by decide) (hs_ne (by decide) (hs_ne (by decide) (hs_ne (by decide) (hr.at 85 (by decide) (by decide) rfl))))) (by decide) (Nat.le_of_ble_eq_true rfl) ?_
  refine ar_ldA rfl rfl ?_
  refine ar_inl (mc := 0) (ms := 0) rfl (rcv_of (hs_ne (by decide) (hs_eq (hs_eq (hs_eq (hs_eq (hr.at 69 (by decide) (by decide) rfl))))))) (Nat.le_of_ble_eq_true rfl) (Nat.le_of_ble_eq_true rfl) (by omega) (by omega) ?_
  refine ac_ink [some (.inr (.inr (some 69))), none] mt_225 (Nat.le_of_ble_eq_true rfl) rfl ?_
  refine ar_push rfl ?_
  refine ar_ldA rfl rfl ?_
  refine ar_get rfl (hs_ne (by decide) (hs_eq (hs_eq (hs_eq (hs_eq (hr.at 69 (by decide) (by decide) rfl)))))) rfl ?_
  refine ar_push rfl ?_
  refine ar_ald rfl (hs_eq (hs_ne (by decide) (hs_ne (by decide) (hs_ne (by decide) (hs_ne (by decide) (hr.at 85 (by decide) (by decide) rfl)))))) (by decide) rfl ?_
  refine ar_bink (z := 671) rfl (by decide) ?_
  refine ar_svIk [some (.inr (.inr (some 69))), some (.inl 671)] rfl rfl ?_
  refine ar_ldA rfl rfl ?_
  refine ar_get rfl (hs_ne (by decide) (hs_eq (hs_eq (hs_eq (hs_eq (hr.at 69 (by decide) (by decide) rfl)))))) rfl ?_
  refine ar_ldI rfl rfl ?_
  refine ar_ldA rfl rfl ?_
  refine ar_get rfl (hs_ne (by decide) (hs_eq (hs_eq (hs_eq (hs_eq (hr.at 69 (by decide) (by decide) rfl)))))) rfl ?_
  refine ar_un rfl ?_
  refine ar_ast rfl (hs_ne (by decide) (hs_ne (by decide) (hs_ne (by decide) (hs_ne (by decide) (hs_ne (by decide) (hr.at 86 (by decide) (by decide) rfl)))))) (by decide) (Nat.le_of_ble_eq_true rfl) ?_
  refine ar_ldA rfl rfl ?_
  refine ar_inl (mc := 0) (ms := 0) rfl (rcv_of (hs_ne (by decide) (hs_ne (by decide) (hs_eq (hs_eq (hs_eq (hs_eq (hr.at 69 (by decide) (by decide) rfl)))))))) (Nat.le_of_ble_eq_true rfl) (Nat.le_of_ble_eq_true rfl) (by omega) (by omega) ?_
  refine ac_ink [some (.inr (.inr (some 69)))] mt_224 (Nat.le_of_ble_eq_true rfl) rfl ?_
  refine ar_ldA rfl rfl ?_
  refine ar_inl (mc := 0) (ms := 0) rfl (rcv_of (hs_ne (by decide) (hs_ne (by decide) (hs_eq (hs_eq (hs_eq (hs_eq (hr.at 69 (by decide) (by decide) rfl)))))))) (Nat.le_of_ble_eq_true rfl) (Nat.le_of_ble_eq_true rfl) (by omega) (by omega) ?_
  refine ac_ink [some (.inr (.inr (some 69)))] mt_223 (Nat.le_of_ble_eq_true rfl) rfl ?_
  refine ar_ldA rfl rfl ?_
  refine ar_inl (mc := 0) (ms := 0) rfl (rcv_of (hs_ne (by decide) (hs_ne (by decide) (hs_eq (hs_eq (hs_eq (hs_eq (hr.at 69 (by decide) (by decide) rfl)))))))) (Nat.le_of_ble_eq_true rfl) (Nat.le_of_ble_eq_true rfl) (by omega) (by omega) ?_
  refine ac_ink [some (.inr (.inr (some 69))), none] mt_222 (Nat.le_of_ble_eq_true rfl) rfl ?_
  refine ar_ldA rfl rfl ?_
  refine ar_inl (mc := 0) (ms := 0) rfl (rcv_of (hs_ne (by decide) (hs_ne (by decide) (hs_eq (hs_eq (hs_eq (hs_eq (hr.at 69 (by decide) (by decide) rfl)))))))) (Nat.le_of_ble_eq_true rfl) (Nat.le_of_ble_eq_true rfl) (by omega) (by omega) ?_
  refine ac_ink [some (.inr (.inr (some 69))), none] mt_221 (Nat.le_of_ble_eq_true rfl) rfl ?_
  refine ar_ldA rfl rfl ?_
  refine ar_inl (mc := 0) (ms := 0) rfl (rcv_of (hs_ne (by decide) (hs_ne (by decide) (hs_eq (hs_eq (hs_eq (hs_eq (hr.at 69 (by decide) (by decide) rfl)))))))) (Nat.le_of_ble_eq_true rfl) (Nat.le_of_ble_eq_true rfl) (by omega) (by omega) ?_
  refine ac_ink [some (.inr (.inr (some 69))), none] mt_220 (Nat.le_of_ble_eq_true rfl) rfl ?_
  refine ar_ldA rfl rfl ?_
  refine ar_inl (mc := 0) (ms := 0) rfl (rcv_of (hs_ne (by decide) (hs_ne (by decide) (hs_eq (hs_eq (hs_eq (hs_eq (hr.at 69 (by decide) (by decide) rfl)))))))) (Nat.le_of_ble_eq_true rfl) (Nat.le_of_ble_eq_true rfl) (by omega) (by omega) ?_
  refine ac_ink [some (.inr (.inr (some 69))), none] mt_219 (Nat.le_of_ble_eq_true rfl) rfl ?_
  refine ar_ldA rfl rfl ?_
  refine ar_inl (mc := 0) (ms := 0) rfl (rcv_of (hs_ne (by decide) (hs_ne (by decide) (hs_eq (hs_eq (hs_eq (hs_eq (hr.at 69 (by decide) (by decide) rfl)))))))) (Nat.le_of_ble_eq_true rfl) (Nat.le_of_ble_eq_true rfl) (by omega) (by omega) ?_
  refine ac_ink [some (.inr (.inr (some 69)))] mt_213 (Nat.le_of_ble_eq_true rfl) rfl ?_
  refine ar_ldA rfl rfl ?_
  refine ar_get rfl (hs_ne (by decide) (hs_ne (by decide) (hs_eq (hs_eq (hs_eq (hs_eq (hr.at 69 (by decide) (by decide) rfl))))))) rfl ?_
  refine ar_ldA rfl rfl ?_
  refine ar_get rfl (hs_ne (by decide) (hs_ne (by decide) (hs_eq (hs_eq (hs_eq (hs_eq (hr.at 69 (by decide) (by decide) rfl))))))) rfl ?_
  refine ar_if2t rfl (by decide) ?_
  refine ar_push rfl ?_
  refine ar_ret rfl rfl ?_
  show aRun _ (aCall Mt _) _ 4 (_, [_], _, _, _)
  refine ar_svIk [some (.inr (.inr (some 69))), some (.inl (-1))] rfl rfl ?_
  refine ar_ldI rfl rfl ?_
  refine ar_inl (mc := 0) (ms := 0) rfl rfl (Nat.le_of_ble_eq_true rfl) (Nat.le_of_ble_eq_true rfl) (by omega) (by omega) ?_
  refine ac_ink [some (.inl (-1))] mt_216 (Nat.le_of_ble_eq_true rfl) rfl ?_
  refine ar_ldI rfl rfl ?_
  refine ar_tabO rfl (by decide) ?_
  refine ar_push rfl ?_
  refine ar_ret rfl rfl ?_
  show aRun _ (aCall Mt _) _ 9 (_, [_], _, _, _)
  refine ar_if1t rfl (by decide) ?_
  refine ar_ldI rfl rfl ?_
  refine ar_push rfl ?_
  refine ar_if2f rfl (by decide) ?_
  refine ar_ldI rfl rfl ?_
  refine ar_push rfl ?_
  refine ar_if2t rfl (by decide) ?_
  refine ar_ldI rfl rfl ?_
  refine ar_push rfl ?_
  refine ar_if2t rfl (by decide) ?_
  refine ar_ldA rfl rfl ?_
  refine ar_inl (mc := 0) (ms := 0) rfl (rcv_of (hs_ne (by decide) (hs_ne (by decide) (hs_eq (hs_eq (hs_eq (hs_eq (hr.at 69 (by decide) (by decide) rfl)))))))) (Nat.le_of_ble_eq_true rfl) (Nat.le_of_ble_eq_true rfl) (by omega) (by omega) ?_
  refine ac_ink [some (.inr (.inr (some 69))), none, none] mt_218 (Nat.le_of_ble_eq_true rfl) rfl ?_
  refine ar_push rfl ?_
  refine ar_svIk [some (.inr (.inr (some 69))), some (.inl 0), none] rfl rfl ?_
  refine ar_push rfl ?_
  refine ar_svIk [some (.inr (.inr (some 69))), some (.inl 0), some (.inl 0)] rfl rfl ?_
  refine ar_ldI rfl rfl ?_
  refine ar_push rfl ?_
  refine ar_if2f rfl (by decide) ?_
  refine ar_ldA rfl rfl ?_
  refine ar_inl (mc := 0) (ms := 0) rfl (rcv_of (hs_ne (by decide) (hs_ne (by decide) (hs_eq (hs_eq (hs_eq (hs_eq (hr.at 69 (by decide) (by decide) rfl)))))))) (Nat.le_of_ble_eq_true rfl) (Nat.le_of_ble_eq_true rfl) (by omega) (by omega) ?_
  refine ac_ink [some (.inr (.inr (some 69)))] mt_213 (Nat.le_of_ble_eq_true rfl) rfl ?_
  refine ar_ldA rfl rfl ?_
  refine ar_get rfl (hs_ne (by decide) (hs_ne (by decide) (hs_eq (hs_eq (hs_eq (hs_eq (hr.at 69 (by decide) (by decide) rfl))))))) rfl ?_
  refine ar_ldA rfl rfl ?_
  refine ar_get rfl (hs_ne (by decide) (hs_ne (by decide) (hs_eq (hs_eq (hs_eq (hs_eq (hr.at 69 (by decide) (by decide) rfl))))))) rfl ?_
  refine ar_if2t rfl (by decide) ?_
  refine ar_push rfl ?_
  refine ar_ret rfl rfl ?_
  show aRun _ (aCall Mt _) _ 14 (_, [_], _, _, _)
  refine ar_push rfl ?_
  refine ar_push rfl ?_
  refine ar_callv rfl rfl (Nat.le_of_ble_eq_true rfl) (Nat.le_of_ble_eq_true rfl) rfl (sp_in _ _ _ _ _) ?_
  refine ar_if1t rfl (bi_e0t (by decide)) ?_
  refine ar_ldI rfl rfl ?_
  refine ar_if1t rfl (by decide) ?_
  refine ar_ldA rfl rfl ?_
  refine ar_inl (mc := 0) (ms := 0) rfl (rcv_of (hs_ne (by decide) (hs_ne (by decide) (hs_eq (hs_eq (hs_eq (hs_eq (hr.at 69 (by decide) (by decide) rfl)))))))) (Nat.le_of_ble_eq_true rfl) (Nat.le_of_ble_eq_true rfl) (by omega) (by omega) ?_
  refine ac_ink [some (.inr (.inr (some 69)))] mt_214 (Nat.le_of_ble_eq_true rfl) rfl ?_
  refine ar_ldA rfl rfl ?_
  refine ar_get rfl (hs_ne (by decide) (hs_ne (by decide) (hs_eq (hs_eq (hs_eq (hs_eq (hr.at 69 (by decide) (by decide) rfl))))))) rfl ?_
  refine ar_if1f rfl (by decide) ?_
  refine ar_ldA rfl rfl ?_
  refine ar_ldA rfl rfl ?_
  refine ar_get rfl (hs_ne (by decide) (hs_ne (by decide) (hs_eq (hs_eq (hs_eq (hs_eq (hr.at 69 (by decide) (by decide) rfl))))))) rfl ?_
  refine ar_put rfl (hs_ne (by decide) (hs_ne (by decide) (hs_eq (hs_eq (hs_eq (hs_eq (hr.at 69 (by decide) (by decide) rfl))))))) (Nat.le_of_ble_eq_true rfl) rfl ?_
  refine ar_ret0 rfl ?_
  show aRun _ (aCall Mt _) _ 75 (_, [], _, _, _)
  refine ar_ldA rfl rfl ?_
  refine ar_push rfl ?_
  refine ar_ldI rfl rfl ?_
  refine ar_inl (mc := 0) (ms := 0) rfl (rcv_of (hs_eq (hs_ne (by decide) (hs_ne (by decide) (hs_eq (hs_eq (hs_eq (hs_eq (hr.at 69 (by decide) (by decide) rfl))))))))) (Nat.le_of_ble_eq_true rfl) (Nat.le_of_ble_eq_true rfl) (by omega) (by omega) ?_
  refine ac_ink [some (.inr (.inr (some 69))), some (.inl 1), some (.inl 0)] mt_215 (Nat.le_of_ble_eq_true rfl) rfl ?_
  refine ar_ldA rfl rfl ?_
  refine ar_get rfl (hs_eq (hs_ne (by decide) (hs_ne (by decide) (hs_eq (hs_eq (hs_eq (hs_eq (hr.at 69 (by decide) (by decide) rfl)))))))) rfl ?_
  refine ar_push rfl ?_
  refine ar_ldA rfl rfl ?_
  refine ar_get rfl (hs_eq (hs_ne (by decide) (hs_ne (by decide) (hs_eq (hs_eq (hs_eq (hs_eq (hr.at 69 (by decide) (by decide) rfl)))))))) rfl ?_
  refine ar_bink (z := 1430) rfl (by decide) ?_
  refine ar_ldI rfl rfl ?_
  refine ar_un rfl ?_
  refine ar_ast rfl (hs_ne (by decide) (hs_ne (by decide) (hs_ne (by decide) (hs_ne (by decide) (hs_ne (by decide) (hs_ne (by decide) (hs_ne (by decide) (hr.at 83 (by decide) (by decide) rfl)))))))) (by decide) (Nat.le_of_ble_eq_true rfl) ?_
  refine ar_ldA rfl rfl ?_
  refine ar_get rfl (hs_ne (by decide) (hs_eq (hs_ne (by decide) (hs_ne (by decide) (hs_eq (hs_eq (hs_eq (hs_eq (hr.at 69 (by decide) (by decide) rfl))))))))) rfl ?_
  refine ar_push rfl ?_
  refine ar_ldA rfl rfl ?_
  refine ar_get rfl (hs_ne (by decide) (hs_eq (hs_ne (by decide) (hs_ne (by decide) (hs_eq (hs_eq (hs_eq (hs_eq (hr.at 69 (by decide) (by decide) rfl))))))))) rfl ?_
  refine ar_bink (z := 1430) rfl (by decide) ?_
  refine ar_ldI rfl rfl ?_
  refine ar_ast rfl (hs_ne (by decide) (hs_ne (by decide) (hs_ne (by decide) (hs_ne (by decide) (hs_ne (by decide) (hs_ne (by decide) (hs_ne (by decide) (hs_ne (by decide) (hr.at 84 (by decide) (by decide) rfl))))))))) (by decide) (Nat.le_of_ble_eq_true rfl) ?_
  refine ar_ldA rfl rfl ?_
  refine ar_dup rfl rfl ?_
  refine ar_get rfl (hs_ne (by decide) (hs_ne (by decide) (hs_eq (hs_ne (by decide) (hs_ne (by decide) (hs_eq (hs_eq (hs_eq (hs_eq (hr.at 69 (by decide) (by decide) rfl)))))))))) rfl ?_
  refine ar_push rfl ?_
  refine ar_bink (z := 1) rfl (by decide) ?_
  refine ar_put rfl (hs_ne (by decide) (hs_ne (by decide) (hs_eq (hs_ne (by decide) (hs_ne (by decide) (hs_eq (hs_eq (hs_eq (hs_eq (hr.at 69 (by decide) (by decide) rfl)))))))))) (Nat.le_of_ble_eq_true rfl) rfl ?_
  refine ar_ret0 rfl ?_
  show aRun _ (aCall Mt _) _ 81 (_, [], _, _, _)
  refine ar_ret0 rfl ?_
  show aRun _ (aCall Mt _) _ 154 (_, [], _, _, _)
  refine ar_ret0 rfl ?_
  show aRun _ (aCall Mt _) _ 4 (_, [], _, _, _)
  refine ar_ldA rfl rfl ?_
  refine ar_get rfl (hs_eq (hs_ne (by decide) (hs_ne (by decide) (hs_eq (hs_ne (by decide) (hs_ne (by decide) (hs_eq (hs_eq (hs_eq (hs_eq (hr.at 69 (by decide) (by decide) rfl))))))))))) rfl ?_
  refine ar_if1t rfl (by decide) ?_
  refine ar_ret0 rfl ?_
  show aRun _ (aCall Mt _) _ 4 (_, [], _, _, _)
  refine ar_ldA rfl rfl ?_
  refine ar_get rfl (hs_eq (hs_ne (by decide) (hs_ne (by decide) (hs_eq (hs_ne (by decide) (hs_ne (by decide) (hs_eq (hs_eq (hs_eq (hs_eq (hr.at 69 (by decide) (by decide) rfl))))))))))) rfl ?_
  refine ar_if1t rfl (by decide) ?_
  refine ar_ret0 rfl ?_
  show aRun _ (aCall Mt _) _ 4 (_, [], _, _, _)
  refine ar_ldA rfl rfl ?_
  refine ar_inl (mc := 0) (ms := 0) rfl (rcv_of (hs_eq (hs_ne (by decide) (hs_ne (by decide) (hs_eq (hs_ne (by decide) (hs_ne (by decide) (hs_eq (hs_eq (hs_eq (hs_eq (hr.at 69 (by decide) (by decide) rfl)))))))))))) (Nat.le_of_ble_eq_true rfl) (Nat.le_of_ble_eq_true rfl) (by omega) (by omega) ?_
  refine ac_ink [some (.inr (.inr (some 69)))] mt_213 (Nat.le_of_ble_eq_true rfl) rfl ?_
  refine ar_ldA rfl rfl ?_
  refine ar_get rfl (hs_eq (hs_ne (by decide) (hs_ne (by decide) (hs_eq (hs_ne (by decide) (hs_ne (by decide) (hs_eq (hs_eq (hs_eq (hs_eq (hr.at 69 (by decide) (by decide) rfl))))))))))) rfl ?_
  refine ar_ldA rfl rfl ?_
  refine ar_get rfl (hs_eq (hs_ne (by decide) (hs_ne (by decide) (hs_eq (hs_ne (by decide) (hs_ne (by decide) (hs_eq (hs_eq (hs_eq (hs_eq (hr.at 69 (by decide) (by decide) rfl))))))))))) rfl ?_
  refine ar_if2t rfl (by decide) ?_
  refine ar_push rfl ?_
  refine ar_ret rfl rfl ?_
  show aRun _ (aCall Mt _) _ 8 (_, [_], _, _, _)
  refine ar_svIk [some (.inr (.inr (some 69))), some (.inl (-1))] rfl rfl ?_
  refine ar_ldA rfl rfl ?_
  refine ar_get rfl (hs_eq (hs_ne (by decide) (hs_ne (by decide) (hs_eq (hs_ne (by decide) (hs_ne (by decide) (hs_eq (hs_eq (hs_eq (hs_eq (hr.at 69 (by decide) (by decide) rfl))))))))))) rfl ?_
  refine ar_if1t rfl (by decide) ?_
  refine ar_ret0 rfl ?_
  show aRun _ (aCall Mt _) _ 4 (_, [], _, _, _)
  refine ar_ldA rfl rfl ?_
  refine ar_get rfl (hs_eq (hs_ne (by decide) (hs_ne (by decide) (hs_eq (hs_ne (by decide) (hs_ne (by decide) (hs_eq (hs_eq (hs_eq (hs_eq (hr.at 69 (by decide) (by decide) rfl))))))))))) rfl ?_
  refine ar_if1t rfl (by decide) ?_
  refine ar_ret0 rfl ?_
  show aRun _ (aCall Mt _) _ 4 (_, [], _, _, _)
  refine ar_ldA rfl rfl ?_
  refine ar_get rfl (hs_eq (hs_ne (by decide) (hs_ne (by decide) (hs_eq (hs_ne (by decide) (hs_ne (by decide) (hs_eq (hs_eq (hs_eq (hs_eq (hr.at 69 (by decide) (by decide) rfl))))))))))) rfl ?_
  refine ar_if1t rfl (by decide) ?_
  refine ar_ret0 rfl ?_
  show aRun _ (aCall Mt _) _ 27 (_, [], _, _, _)
  refine ar_ldA rfl rfl ?_
  refine ar_get rfl (hs_eq (hs_ne (by decide) (hs_ne (by decide) (hs_eq (hs_ne (by decide) (hs_ne (by decide) (hs_eq (hs_eq (hs_eq (hs_eq (hr.at 69 (by decide) (by decide) rfl))))))))))) rfl ?_
  refine ar_if1t rfl (by decide) ?_
  refine ar_ldA rfl rfl ?_
  refine ar_get rfl (hs_eq (hs_ne (by decide) (hs_ne (by decide) (hs_eq (hs_ne (by decide) (hs_ne (by decide) (hs_eq (hs_eq (hs_eq (hs_eq (hr.at 69 (by decide) (by decide) rfl))))))))))) rfl ?_
  refine ar_ldI rfl rfl ?_
  refine ar_ldA rfl rfl ?_
  refine ar_get rfl (hs_eq (hs_ne (by decide) (hs_ne (by decide) (hs_eq (hs_ne (by decide) (hs_ne (by decide) (hs_eq (hs_eq (hs_eq (hs_eq (hr.at 69 (by decide) (by decide) rfl))))))))))) rfl ?_
  refine ar_un rfl ?_
  refine ar_ast rfl (hs_ne (by decide) (hs_ne (by decide) (hs_ne (by decide) (hs_ne (by decide) (hs_ne (by decide) (hs_ne (by decide) (hs_ne (by decide) (hs_ne (by decide) (hs_ne (by decide) (hs_ne (by decide) (hr.at 87 (by decide) (by decide) rfl))))))))))) (by decide) (Nat.le_of_ble_eq_true rfl) ?_
  refine ar_ldA rfl rfl ?_
  refine ar_get rfl (hs_ne (by decide) (hs_eq (hs_ne (by decide) (hs_ne (by decide) (hs_eq (hs_ne (by decide) (hs_ne (by decide) (hs_eq (hs_eq (hs_eq (hs_eq (hr.at 69 (by decide) (by decide) rfl)))))))))))) rfl ?_
  refine ar_push rfl ?_
  refine ar_dup2 rfl rfl rfl ?_
  refine ar_ald rfl (hs_ne (by decide) (hs_ne (by decide) (hs_ne (by decide) (hs_ne (by decide) (hs_ne (by decide) (hs_ne (by decide) (hs_eq (hs_ne (by decide) (hs_ne (by decide) (hs_ne (by decide) (hs_ne (by decide) (hr.at 85 (by decide) (by decide) rfl)))))))))))) (by decide) rfl ?_
  refine ar_push rfl ?_
  refine ar_bink (z := 1) rfl (by decide) ?_
  refine ar_ast rfl (hs_ne (by decide) (hs_ne (by decide) (hs_ne (by decide) (hs_ne (by decide) (hs_ne (by decide) (hs_ne (by decide) (hs_eq (hs_ne (by decide) (hs_ne (by decide) (hs_ne (by decide) (hs_ne (by decide) (hr.at 85 (by decide) (by decide) rfl)))))))))))) (by decide) (Nat.le_of_ble_eq_true rfl) ?_
  refine ar_ret0 rfl ?_
  show aRun _ (aCall Mt _) _ 54 (_, [], _, _, _)
  refine ar_ldA rfl rfl ?_
  refine ar_get rfl (hs_ne (by decide) (hs_ne (by decide) (hs_eq (hs_ne (by decide) (hs_ne (by decide) (hs_eq (hs_ne (by decide) (hs_ne (by decide) (hs_eq (hs_eq (hs_eq (hs_eq (hr.at 69 (by decide) (by decide) rfl))))))))))))) rfl ?_
  refine ar_if1t rfl (by decide) ?_
  refine ar_ldA rfl rfl ?_
  refine ar_get rfl (hs_ne (by decide) (hs_ne (by decide) (hs_eq (hs_ne (by decide) (hs_ne (by decide) (hs_eq (hs_ne (by decide) (hs_ne (by decide) (hs_eq (hs_eq (hs_eq (hs_eq (hr.at 69 (by decide) (by decide) rfl))))))))))))) rfl ?_
  refine ar_if1t rfl (by decide) ?_
  refine ar_ldA rfl rfl ?_
  refine ar_push rfl ?_
  refine ar_put rfl (hs_ne (by decide) (hs_ne (by decide) (hs_eq (hs_ne (by decide) (hs_ne (by decide) (hs_eq (hs_ne (by decide) (hs_ne (by decide) (hs_eq (hs_eq (hs_eq (hs_eq (hr.at 69 (by decide) (by decide) rfl))))))))))))) (Nat.le_of_ble_eq_true rfl) rfl ?_
  refine ar_ldA rfl rfl ?_
  refine ar_get rfl (hs_eq (hs_ne (by decide) (hs_ne (by decide) (hs_eq (hs_ne (by decide) (hs_ne (by decide) (hs_eq (hs_ne (by decide) (hs_ne (by decide) (hs_eq (hs_eq (hs_eq (hs_eq (hr.at 69 (by decide) (by decide) rfl)))))))))))))) rfl ?_
  refine ar_if1f rfl (by decide) ?_
  refine ar_push rfl ?_
  refine ar_ldA rfl rfl ?_
  refine ar_get rfl (hs_eq (hs_ne (by decide) (hs_ne (by decide) (hs_eq (hs_ne (by decide) (hs_ne (by decide) (hs_eq (hs_ne (by decide) (hs_ne (by decide) (hs_eq (hs_eq (hs_eq (hs_eq (hr.at 69 (by decide) (by decide) rfl)))))))))))))) rfl ?_
  refine ar_bink (z := (-100)) rfl (by decide) ?_
  refine ar_ret rfl rfl ?_
  exact ⟨rfl, hJ _ _ _⟩
set_option maxRecDepth 20000 in
set_option maxHeartbeats 4000000 in
theorem p1_7_17 (J : aH → Nat → Nat → Prop) (hJ : ∀ h a b, J h a b) (kc ks : Nat) (hkc : 1000 ≤ kc) (hks : 100000 ≤ ks) : aPairI 0 69 131 227 [.inl 17] J hF kc ks := by
  refine ⟨0, 0, _, by omega, by omega, rfl, ?_⟩
  refine ac_ink [some (.inr (.inr (some 0))), some (.inl 17), none, none] mt_131 (Nat.le_of_ble_eq_true rfl) rfl ?_
  refine ar_ldA rfl rfl ?_
  refine ar_ldI rfl rfl ?_
  refine ar_inl (mc := 0) (ms := 0) rfl (rcv_of rfl) (Nat.le_of_ble_eq_true rfl) (Nat.le_of_ble_eq_true rfl) (by omega) (by omega) ?_
  refine ac_ink [some (.inr (.inr (some 0))), some (.inl 17)] mt_166 (Nat.le_of_ble_eq_true rfl) rfl ?_
  refine ar_ldI rfl rfl ?_
  refine ar_if1t rfl (by decide) ?_
  refine ar_ldI rfl rfl ?_
  refine ar_push rfl ?_
  refine ar_if2t rfl (by decide) ?_
  refine ar_ldA rfl rfl ?_
  refine ar_get rfl rfl rfl ?_
  refine ar_ldI rfl rfl ?_
  refine ar_push rfl ?_
  refine ar_bink (z := 7) rfl (by decide) ?_
  refine ar_inl (mc := 0) (ms := 0) rfl (rcv_of rfl) (Nat.le_of_ble_eq_true rfl) (Nat.le_of_ble_eq_true rfl) (by omega) (by omega) ?_
  refine ac_ink [some (.inr (.inr (some 15))), some (.inl 7)] mt_7 (Nat.le_of_ble_eq_true rfl) rfl ?_
  refine ar_ldI rfl rfl ?_
  refine ar_inl (mc := 0) (ms := 0) rfl rfl (Nat.le_of_ble_eq_true rfl) (Nat.le_of_ble_eq_true rfl) (by omega) (by omega) ?_
  refine ac_ink [some (.inl 7)] mt_175 (Nat.le_of_ble_eq_true rfl) rfl ?_
  refine ar_ldI rfl rfl ?_
  refine ar_push rfl ?_
  refine ar_push rfl ?_
  refine ar_callv rfl rfl (Nat.le_of_ble_eq_true rfl) (Nat.le_of_ble_eq_true rfl) rfl (sp_within _ _ _ _ _) ?_
  refine ar_ret rfl (bi_ret _) ?_
  show aRun _ (aCall Mt _) _ 4 (_, [_], _, _, _)
  refine ar_if1f rfl (bi_e0f (by decide)) ?_
  refine ar_ldA rfl rfl ?_
  refine ar_get rfl rfl rfl ?_
  refine ar_ldI rfl rfl ?_
  refine ar_aldA rfl rfl (by decide) rfl ?_
  refine ar_go rfl ?_
  refine ar_ret rfl rfl ?_
  show aRun _ (aCall Mt _) _ 36 (_, [_], _, _, _)
  refine ar_ret rfl rfl ?_
  show aRun _ (aCall Mt _) _ 5 (_, [_], _, _, _)
  refine ar_svAk [some (.inr (.inr (some 0))), some (.inl 17), some (.inr (.inr (some 37))), none] rfl rfl ?_
  refine ar_ldA rfl rfl ?_
  refine ar_nulS rfl ?_
  refine ar_ldA rfl rfl ?_
  refine ar_get rfl rfl rfl ?_
  refine ar_ldA rfl rfl ?_
  refine ar_inl (mc := 0) (ms := 0) rfl (rcv_of rfl) (Nat.le_of_ble_eq_true rfl) (Nat.le_of_ble_eq_true rfl) (by omega) (by omega) ?_
  refine ac_ink [some (.inr (.inr (some 5))), some (.inr (.inr (some 37))), none] mt_94 (Nat.le_of_ble_eq_true rfl) rfl ?_
  refine ar_ldA rfl rfl ?_
  refine ar_push rfl ?_
  refine ar_put rfl rfl (Nat.le_of_ble_eq_true rfl) rfl ?_
  refine ar_ldA rfl rfl ?_
  refine ar_push rfl ?_
  refine ar_put rfl (hs_eq rfl) (Nat.le_of_ble_eq_true rfl) rfl ?_
  refine ar_ldA rfl rfl ?_
  refine ar_push rfl ?_
  refine ar_put rfl (hs_eq (hs_eq rfl)) (Nat.le_of_ble_eq_true rfl) rfl ?_
  refine ar_ldA rfl rfl ?_
  refine ar_inl (mc := 0) (ms := 0) rfl (rcv_of (hs_eq (hs_eq (hs_eq rfl)))) (Nat.le_of_ble_eq_true rfl) (Nat.le_of_ble_eq_true rfl) (by omega) (by omega) ?_
  refine ac_ink [some (.inr (.inr (some 5))), none] mt_100 (Nat.le_of_ble_eq_true rfl) rfl ?_
  refine ar_ldA rfl rfl ?_
  refine ar_push rfl ?_
  refine ar_inl (mc := 0) (ms := 0) rfl (rcv_of (hs_eq (hs_eq (hs_eq rfl)))) (Nat.le_of_ble_eq_true rfl) (Nat.le_of_ble_eq_true rfl) (by omega) (by omega) ?_
  refine ac_ink [some (.inr (.inr (some 5))), some (.inl 0), none] mt_101 (Nat.le_of_ble_eq_true rfl) rfl ?_
  refine ar_ldA rfl rfl ?_
  refine ar_ldI rfl rfl ?_
  refine ar_inl (mc := 0) (ms := 0) rfl (rcv_of (hs_eq (hs_eq (hs_eq rfl)))) (Nat.le_of_ble_eq_true rfl) (Nat.le_of_ble_eq_true rfl) (by omega) (by omega) ?_
  refine ac_ink [some (.inr (.inr (some 5))), some (.inl 0), none] mt_102 (Nat.le_of_ble_eq_true rfl) rfl ?_
  refine ar_ldA rfl rfl ?_
  refine ar_ldI rfl rfl ?_
  refine ar_inl (mc := 0) (ms := 0) rfl (rcv_of (hs_eq (hs_eq (hs_eq rfl)))) (Nat.le_of_ble_eq_true rfl) (Nat.le_of_ble_eq_true rfl) (by omega) (by omega) ?_
  refine ac_ink [some (.inr (.inr (some 5))), some (.inl 0), none] mt_103 (Nat.le_of_ble_eq_true rfl) rfl ?_
  refine ar_ldA rfl rfl ?_
  refine ar_ldI rfl rfl ?_
  refine ar_inl (mc := 0) (ms := 0) rfl (rcv_of (hs_eq (hs_eq (hs_eq rfl)))) (Nat.le_of_ble_eq_true rfl) (Nat.le_of_ble_eq_true rfl) (by omega) (by omega) ?_
  refine ac_ink [some (.inr (.inr (some 5))), some (.inl 0), none, none] mt_104 (Nat.le_of_ble_eq_true rfl) rfl ?_
  refine ar_ldA rfl rfl ?_
  refine ar_ldI rfl rfl ?_
  refine ar_inl (mc := 0) (ms := 0) rfl (rcv_of (hs_eq (hs_eq (hs_eq rfl)))) (Nat.le_of_ble_eq_true rfl) (Nat.le_of_ble_eq_true rfl) (by omega) (by omega) ?_
  refine ac_ink [some (.inr (.inr (some 5))), some (.inl 0), none, none] mt_105 (Nat.le_of_ble_eq_true rfl) rfl ?_
  refine ar_ldA rfl rfl ?_
  refine ar_ldI rfl rfl ?_
  refine ar_inl (mc := 0) (ms := 0) rfl (rcv_of (hs_eq (hs_eq (hs_eq rfl)))) (Nat.le_of_ble_eq_true rfl) (Nat.le_of_ble_eq_true rfl) (by omega) (by omega) ?_
  refine ac_ink [some (.inr (.inr (some 5))), some (.inl 0), none] mt_106 (Nat.le_of_ble_eq_true rfl) rfl ?_
  refine ar_ldA rfl rfl ?_
  refine ar_inl (mc := 0) (ms := 0) rfl (rcv_of (hs_eq (hs_eq (hs_eq rfl)))) (Nat.le_of_ble_eq_true rfl) (Nat.le_of_ble_eq_true rfl) (by omega) (by omega) ?_
  refine ac_ink [some (.inr (.inr (some 5)))] mt_95 (Nat.le_of_ble_eq_true rfl) rfl ?_
  refine ar_ldA rfl rfl ?_
  refine ar_get rfl (hs_eq (hs_eq (hs_eq rfl))) rfl ?_
  refine ar_if1f rfl (by decide) ?_
  refine ar_ldA rfl rfl ?_
  refine ar_get rfl (hs_eq (hs_eq (hs_eq rfl))) rfl ?_
  refine ar_ldA rfl rfl ?_
  refine ar_get rfl (hs_eq (hs_eq (hs_eq rfl))) rfl ?_
  refine ar_if2t rfl (by decide) ?_
  refine ar_push rfl ?_
  refine ar_ret rfl rfl ?_
  show aRun _ (aCall Mt _) _ 4 (_, [_], _, _, _)
  refine ar_svIk [some (.inr (.inr (some 5))), some (.inl 0), some (.inl (-1))] rfl rfl ?_
  refine ar_ldI rfl rfl ?_
  refine ar_push rfl ?_
  refine ar_push rfl ?_
  refine ar_callv rfl rfl (Nat.le_of_ble_eq_true rfl) (Nat.le_of_ble_eq_true rfl) rfl (sp_within _ _ _ _ _) ?_
  refine ar_if1t rfl (bi_e0t (by decide)) ?_
  refine ar_ldI rfl rfl ?_
  refine ar_push rfl ?_
  refine ar_push rfl ?_
  refine ar_callv rfl rfl (Nat.le_of_ble_eq_true rfl) (Nat.le_of_ble_eq_true rfl) rfl (sp_within _ _ _ _ _) ?_
  refine ar_if1t rfl (bi_e0t (by decide)) ?_
  refine ar_ldI rfl rfl ?_
  refine ar_push rfl ?_
  refine ar_if2t rfl (by decide) ?_
  refine ar_ldA rfl rfl ?_
  refine ar_push rfl ?_
  refine ar_inl (mc := 0) (ms := 0) rfl (rcv_of (hs_eq (hs_eq (hs_eq rfl)))) (Nat.le_of_ble_eq_true rfl) (Nat.le_of_ble_eq_true rfl) (by omega) (by omega) ?_
  refine ac_ink [some (.inr (.inr (some 5))), some (.inl 40)] mt_96 (Nat.le_of_ble_eq_true rfl) rfl ?_
  refine ar_ldA rfl rfl ?_
  refine ar_inl (mc := 0) (ms := 0) rfl (rcv_of (hs_eq (hs_eq (hs_eq rfl)))) (Nat.le_of_ble_eq_true rfl) (Nat.le_of_ble_eq_true rfl) (by omega) (by omega) ?_
  refine ac_ink [some (.inr (.inr (some 5)))] mt_95 (Nat.le_of_ble_eq_true rfl) rfl ?_
  refine ar_ldA rfl rfl ?_
  refine ar_get rfl (hs_eq (hs_eq (hs_eq rfl))) rfl ?_
  refine ar_if1f rfl (by decide) ?_
  refine ar_ldA rfl rfl ?_
  refine ar_get rfl (hs_eq (hs_eq (hs_eq rfl))) rfl ?_
  refine ar_ldA rfl rfl ?_
  refine ar_get rfl (hs_eq (hs_eq (hs_eq rfl))) rfl ?_
  refine ar_if2t rfl (by decide) ?_
  refine ar_push rfl ?_
  refine ar_ret rfl rfl ?_
  show aRun _ (aCall Mt _) _ 4 (_, [_], _, _, _)
  refine ar_ldI rfl rfl ?_
  refine ar_if2f rfl (by decide) ?_
  refine ar_push rfl ?_
  refine ar_ret rfl rfl ?_
  show aRun _ (aCall Mt _) _ 88 (_, [_], _, _, _)
  refine ar_if1t rfl (by decide) ?_
  refine ar_ldA rfl rfl ?_
  refine ar_push rfl ?_
  refine ar_inl (mc := 0) (ms := 0) rfl (rcv_of (hs_eq (hs_eq (hs_eq rfl)))) (Nat.le_of_ble_eq_true rfl) (Nat.le_of_ble_eq_true rfl) (by omega) (by omega) ?_
  refine ac_ink [some (.inr (.inr (some 5))), some (.inl 33)] mt_96 (Nat.le_of_ble_eq_true rfl) rfl ?_
  refine ar_ldA rfl rfl ?_
  refine ar_inl (mc := 0) (ms := 0) rfl (rcv_of (hs_eq (hs_eq (hs_eq rfl)))) (Nat.le_of_ble_eq_true rfl) (Nat.le_of_ble_eq_true rfl) (by omega) (by omega) ?_
  refine ac_ink [some (.inr (.inr (some 5)))] mt_95 (Nat.le_of_ble_eq_true rfl) rfl ?_
  refine ar_ldA rfl rfl ?_
  refine ar_get rfl (hs_eq (hs_eq (hs_eq rfl))) rfl ?_
  refine ar_if1f rfl (by decide) ?_
  refine ar_ldA rfl rfl ?_
  refine ar_get rfl (hs_eq (hs_eq (hs_eq rfl))) rfl ?_
  refine ar_ldA rfl rfl ?_
  refine ar_get rfl (hs_eq (hs_eq (hs_eq rfl))) rfl ?_
  refine ar_if2t rfl (by decide) ?_
  refine ar_push rfl ?_
  refine ar_ret rfl rfl ?_
  show aRun _ (aCall Mt _) _ 4 (_, [_], _, _, _)
  refine ar_ldI rfl rfl ?_
  refine ar_if2f rfl (by decide) ?_
  refine ar_push rfl ?_
  refine ar_ret rfl rfl ?_
  show aRun _ (aCall Mt _) _ 120 (_, [_], _, _, _)
  refine ar_if1t rfl (by decide) ?_
  refine ar_ldA rfl rfl ?_
  refine ar_push rfl ?_
  refine ar_inl (mc := 0) (ms := 0) rfl (rcv_of (hs_eq (hs_eq (hs_eq rfl)))) (Nat.le_of_ble_eq_true rfl) (Nat.le_of_ble_eq_true rfl) (by omega) (by omega) ?_
  refine ac_ink [some (.inr (.inr (some 5))), some (.inl 45)] mt_96 (Nat.le_of_ble_eq_true rfl) rfl ?_
  refine ar_ldA rfl rfl ?_
  refine ar_inl (mc := 0) (ms := 0) rfl (rcv_of (hs_eq (hs_eq (hs_eq rfl)))) (Nat.le_of_ble_eq_true rfl) (Nat.le_of_ble_eq_true rfl) (by omega) (by omega) ?_
  refine ac_ink [some (.inr (.inr (some 5)))] mt_95 (Nat.le_of_ble_eq_true rfl) rfl ?_
  refine ar_ldA rfl rfl ?_
  refine ar_get rfl (hs_eq (hs_eq (hs_eq rfl))) rfl ?_
  refine ar_if1f rfl (by decide) ?_
  refine ar_ldA rfl rfl ?_
  refine ar_get rfl (hs_eq (hs_eq (hs_eq rfl))) rfl ?_
  refine ar_ldA rfl rfl ?_
  refine ar_get rfl (hs_eq (hs_eq (hs_eq rfl))) rfl ?_
  refine ar_if2t rfl (by decide) ?_
  refine ar_push rfl ?_
  refine ar_ret rfl rfl ?_
  show aRun _ (aCall Mt _) _ 4 (_, [_], _, _, _)
  refine ar_ldI rfl rfl ?_
  refine ar_if2f rfl (by decide) ?_
  refine ar_push rfl ?_
  refine ar_ret rfl rfl ?_
  show aRun _ (aCall Mt _) _ 145 (_, [_], _, _, _)
  refine ar_if1t rfl (by decide) ?_
  refine ar_ldA rfl rfl ?_
  refine ar_inl (mc := 0) (ms := 0) rfl (rcv_of (hs_eq (hs_eq (hs_eq rfl)))) (Nat.le_of_ble_eq_true rfl) (Nat.le_of_ble_eq_true rfl) (by omega) (by omega) ?_
  refine ac_ink [some (.inr (.inr (some 5)))] mt_99 (Nat.le_of_ble_eq_true rfl) rfl ?_
  refine ar_ldA rfl rfl ?_
  refine ar_get rfl (hs_eq (hs_eq (hs_eq rfl))) rfl ?_
  refine ar_push rfl ?_
  refine ar_if2f rfl (by decide) ?_
  refine ar_ldA rfl rfl ?_
  refine ar_ldA rfl rfl ?_
  refine ar_get rfl (hs_eq (hs_eq (hs_eq rfl))) rfl ?_
  refine ar_put rfl (hs_eq (hs_eq (hs_eq rfl))) (Nat.le_of_ble_eq_true rfl) rfl ?_
  refine ar_ret0 rfl ?_
  show aRun _ (aCall Mt _) _ 168 (_, [], _, _, _)
  refine ar_ret0 rfl ?_
  show aRun _ (aCall Mt _) _ 5 (_, [], _, _, _)
  refine ar_push rfl ?_
  refine ar_svIk [some (.inr (.inr (some 5))), some (.inl 0), some (.inl 0), none] rfl rfl ?_
  refine ar_ldI rfl rfl ?_
  refine ar_ldA rfl rfl ?_
  refine ar_get rfl (hs_eq (hs_eq (hs_eq (hs_eq rfl)))) rfl ?_
  refine ar_if2t rfl (by decide) ?_
  refine ar_ret0 rfl ?_
  show aRun _ (aCall Mt _) _ 5 (_, [], _, _, _)
  refine ar_push rfl ?_
  refine ar_svIk [some (.inr (.inr (some 5))), some (.inl 0), some (.inl 0), none] rfl rfl ?_
  refine ar_ldI rfl rfl ?_
  refine ar_ldA rfl rfl ?_
  refine ar_get rfl (hs_eq (hs_eq (hs_eq (hs_eq rfl)))) rfl ?_
  refine ar_if2t rfl (by decide) ?_
  refine ar_ret0 rfl ?_
  show aRun _ (aCall Mt _) _ 5 (_, [], _, _, _)
  refine ar_ldA rfl rfl ?_
  refine ar_push rfl ?_
  refine ar_inl (mc := 0) (ms := 0) rfl (rcv_of (hs_eq (hs_eq (hs_eq (hs_eq rfl))))) (Nat.le_of_ble_eq_true rfl) (Nat.le_of_ble_eq_true rfl) (by omega) (by omega) ?_
  refine ac_ink [some (.inr (.inr (some 5))), some (.inl 60)] mt_97 (Nat.le_of_ble_eq_true rfl) rfl ?_
  refine ar_ldA rfl rfl ?_
  refine ar_get rfl (hs_eq (hs_eq (hs_eq (hs_eq rfl)))) rfl ?_
  refine ar_push rfl ?_
  refine ar_if2t rfl (by decide) ?_
  refine ar_push rfl ?_
  refine ar_ret rfl rfl ?_
  show aRun _ (aCall Mt _) _ 11 (_, [_], _, _, _)
  refine ar_if1t rfl (by decide) ?_
  refine ar_ldA rfl rfl ?_
  refine ar_push rfl ?_
  refine ar_inl (mc := 0) (ms := 0) rfl (rcv_of (hs_eq (hs_eq (hs_eq (hs_eq rfl))))) (Nat.le_of_ble_eq_true rfl) (Nat.le_of_ble_eq_true rfl) (by omega) (by omega) ?_
  refine ac_ink [some (.inr (.inr (some 5))), some (.inl 61)] mt_97 (Nat.le_of_ble_eq_true rfl) rfl ?_
  refine ar_ldA rfl rfl ?_
  refine ar_get rfl (hs_eq (hs_eq (hs_eq (hs_eq rfl)))) rfl ?_
  refine ar_push rfl ?_
  refine ar_if2t rfl (by decide) ?_
  refine ar_push rfl ?_
  refine ar_ret rfl rfl ?_
  show aRun _ (aCall Mt _) _ 25 (_, [_], _, _, _)
  refine ar_if1t rfl (by decide) ?_
  refine ar_ldA rfl rfl ?_
  refine ar_push rfl ?_
  refine ar_inl (mc := 0) (ms := 0) rfl (rcv_of (hs_eq (hs_eq (hs_eq (hs_eq rfl))))) (Nat.le_of_ble_eq_true rfl) (Nat.le_of_ble_eq_true rfl) (by omega) (by omega) ?_
  refine ac_ink [some (.inr (.inr (some 5))), some (.inl 62)] mt_97 (Nat.le_of_ble_eq_true rfl) rfl ?_
  refine ar_ldA rfl rfl ?_
  refine ar_get rfl (hs_eq (hs_eq (hs_eq (hs_eq rfl)))) rfl ?_
  refine ar_push rfl ?_
  refine ar_if2t rfl (by decide) ?_
  refine ar_push rfl ?_
  refine ar_ret rfl rfl ?_
  show aRun _ (aCall Mt _) _ 39 (_, [_], _, _, _)
  refine ar_if1t rfl (by decide) ?_
  refine ar_push rfl ?_
  refine ar_svIk [some (.inr (.inr (some 5))), some (.inl 0), some (.inl 15)] rfl rfl ?_
  refine ar_ldI rfl rfl ?_
  refine ar_push rfl ?_
  refine ar_if2f rfl (by decide) ?_
  refine ar_ret0 rfl ?_
  show aRun _ (aCall Mt _) _ 5 (_, [], _, _, _)
  refine ar_push rfl ?_
  refine ar_svIk [some (.inr (.inr (some 5))), some (.inl 0), some (.inl 0)] rfl rfl ?_
  refine ar_ldI rfl rfl ?_
  refine ar_ldA rfl rfl ?_
  refine ar_get rfl (hs_eq (hs_eq (hs_eq (hs_eq rfl)))) rfl ?_
  refine ar_if2t rfl (by decide) ?_
  refine ar_ret0 rfl ?_
  show aRun _ (aCall Mt _) _ 5 (_, [], _, _, _)
  refine ar_push rfl ?_
  refine ar_svIk [some (.inr (.inr (some 5))), some (.inl 0), some (.inl 0)] rfl rfl ?_
  refine ar_ldI rfl rfl ?_
  refine ar_ldA rfl rfl ?_
  refine ar_get rfl (hs_eq (hs_eq (hs_eq (hs_eq rfl)))) rfl ?_
  refine ar_if2t rfl (by decide) ?_
  refine ar_ret0 rfl ?_
  show aRun _ (aCall Mt _) _ 5 (_, [], _, _, _)
  refine ar_ldA rfl rfl ?_
  refine ar_push rfl ?_
  refine ar_inl (mc := 0) (ms := 0) rfl (rcv_of (hs_eq (hs_eq (hs_eq (hs_eq rfl))))) (Nat.le_of_ble_eq_true rfl) (Nat.le_of_ble_eq_true rfl) (by omega) (by omega) ?_
  refine ac_ink [some (.inr (.inr (some 5))), some (.inl 63)] mt_97 (Nat.le_of_ble_eq_true rfl) rfl ?_
  refine ar_ldA rfl rfl ?_
  refine ar_get rfl (hs_eq (hs_eq (hs_eq (hs_eq rfl)))) rfl ?_
  refine ar_push rfl ?_
  refine ar_if2t rfl (by decide) ?_
  refine ar_push rfl ?_
  refine ar_ret rfl rfl ?_
  show aRun _ (aCall Mt _) _ 11 (_, [_], _, _, _)
  refine ar_if1f rfl (by decide) ?_
  refine ar_ldA rfl rfl ?_
  refine ar_push rfl ?_
  refine ar_push rfl ?_
  refine ar_inl (mc := 0) (ms := 0) rfl (rcv_of (hs_eq (hs_eq (hs_eq (hs_eq rfl))))) (Nat.le_of_ble_eq_true rfl) (Nat.le_of_ble_eq_true rfl) (by omega) (by omega) ?_
  refine ac_ink [some (.inr (.inr (some 5))), some (.inl 15), some (.inl 0)] mt_98 (Nat.le_of_ble_eq_true rfl) rfl ?_
  refine ar_ldA rfl rfl ?_
  refine ar_get rfl (hs_eq (hs_eq (hs_eq (hs_eq rfl)))) rfl ?_
  refine ar_ldA rfl rfl ?_
  refine ar_get rfl (hs_eq (hs_eq (hs_eq (hs_eq rfl)))) rfl ?_
  refine ar_len rfl (hs_ne (by decide) (hs_ne (by decide) (hs_ne (by decide) (hs_ne (by decide) rfl)))) ?_
  refine ar_if2t rfl (by decide) ?_
  refine ar_ldA rfl rfl ?_
  refine ar_get rfl (hs_eq (hs_eq (hs_eq (hs_eq rfl)))) rfl ?_
  refine ar_ldA rfl rfl ?_
  refine ar_get rfl (hs_eq (hs_eq (hs_eq (hs_eq rfl)))) rfl ?_
  refine ar_ldI rfl rfl ?_
  refine ar_ldI rfl rfl ?_
  refine ar_inl (mc := 0) (ms := 0) rfl rfl (Nat.le_of_ble_eq_true rfl) (Nat.le_of_ble_eq_true rfl) (by omega) (by omega) ?_
  refine ac_ink [some (.inl 15), some (.inl 0)] mt_111 (Nat.le_of_ble_eq_true rfl) rfl ?_
  refine ar_ldI rfl rfl ?_
  refine ar_push rfl ?_
  refine ar_bink (z := 0) rfl (by decide) ?_
  refine ar_ldI rfl rfl ?_
  refine ar_bink (z := 15) rfl (by decide) ?_
  refine ar_ret rfl rfl ?_
  show aRun _ (aCall Mt _) _ 26 (_, [_, _, _], _, _, _)
  refine ar_ast rfl (hs_ne (by decide) (hs_ne (by decide) (hs_ne (by decide) (hs_ne (by decide) rfl)))) (by decide) (Nat.le_of_ble_eq_true rfl) ?_
  refine ar_ldA rfl rfl ?_
  refine ar_dup rfl rfl ?_
  refine ar_get rfl (hs_ne (by decide) (hs_eq (hs_eq (hs_eq (hs_eq rfl))))) rfl ?_
  refine ar_push rfl ?_
  refine ar_bink (z := 1) rfl (by decide) ?_
  refine ar_put rfl (hs_ne (by decide) (hs_eq (hs_eq (hs_eq (hs_eq rfl))))) (Nat.le_of_ble_eq_true rfl) rfl ?_
  refine ar_ret0 rfl ?_
  show aRun _ (aCall Mt _) _ 21 (_, [], _, _, _)
  refine ar_ret0 rfl ?_
  show aRun _ (aCall Mt _) _ 19 (_, [], _, _, _)
  refine ar_push rfl ?_
  refine ar_svIk [some (.inr (.inr (some 5))), some (.inr (.inr (some 37))), some (.inl 0)] rfl rfl ?_
  refine ar_ldI rfl rfl ?_
  refine ar_ldA rfl rfl ?_
  refine ar_get rfl (hs_eq (hs_ne (by decide) (hs_eq (hs_eq (hs_eq (hs_eq rfl)))))) rfl ?_
  refine ar_if2t rfl (by decide) ?_
  refine ar_ldA rfl rfl ?_
  refine ar_get rfl (hs_eq (hs_ne (by decide) (hs_eq (hs_eq (hs_eq (hs_eq rfl)))))) rfl ?_
  refine ar_push rfl ?_
  refine ar_if2t rfl (by decide) ?_
  refine ar_ldA rfl rfl ?_
  refine ar_get rfl (hs_eq (hs_ne (by decide) (hs_eq (hs_eq (hs_eq (hs_eq rfl)))))) rfl ?_
  refine ar_push rfl ?_
  refine ar_if2t rfl (by decide) ?_
  refine ar_ldA rfl rfl ?_
  refine ar_push rfl ?_
  refine ar_put rfl (hs_eq (hs_ne (by decide) (hs_eq (hs_eq (hs_eq (hs_eq rfl)))))) (Nat.le_of_ble_eq_true rfl) rfl ?_
  refine ar_ldA rfl rfl ?_
  refine ar_get rfl (hs_eq (hs_eq (hs_ne (by decide) (hs_eq (hs_eq (hs_eq (hs_eq rfl))))))) rfl ?_
  refine ar_ret rfl rfl ?_
  show aRun _ (aCall Mt _) _ 20 (_, [_], _, _, _)
  refine ar_svIk [some (.inr (.inr (some 0))), some (.inl 17), some (.inr (.inr (some 37))), some (.inl 0)] rfl rfl ?_
  refine ar_ldI rfl rfl ?_
  refine ar_push rfl ?_
  refine ar_if2f rfl (by decide) ?_
  refine ar_push rfl ?_
  refine ar_ldI rfl rfl ?_
  refine ar_bink (z := (-100)) rfl (by decide) ?_
  refine ar_ret rfl rfl ?_
  refine ⟨_, 0, 0, _, rfl, Nat.zero_le _, Nat.zero_le _, (hs_ne (by decide) (hs_ne (by decide) (hs_ne (by decide) (hs_ne (by decide) (hs_ne (by decide) (hs_ne (by decide) (hs_ne (by decide) rfl))))))), ?_⟩
  refine rgen (((((((rFr_F.sets (by decide)).sets (by decide)).sets (by decide)).sets (by decide)).sets (by decide)).sets (by decide)).sets (by decide)) (fun g hr => ?_)
  refine ac_ink [some (.inr (.inr (some 69))), some (.inl 17), none, none] mt_227 (Nat.le_of_ble_eq_true rfl) rfl ?_
  refine ar_ldI rfl rfl ?_
  refine ar_push rfl ?_
  refine ar_push rfl ?_
  refine ar_callv rfl rfl (Nat.le_of_ble_eq_true rfl) (Nat.le_of_ble_eq_true rfl) rfl (sp_in _ _ _ _ _) ?_
  refine ar_if1f rfl (bi_n0f (by decide)) ?_
  refine ar_ldI rfl rfl ?_
  refine ar_push rfl ?_
  refine ar_push rfl ?_
  refine ar_callv rfl rfl (Nat.le_of_ble_eq_true rfl) (Nat.le_of_ble_eq_true rfl) rfl (sp_in _ _ _ _ _) ?_
  refine ar_if1t rfl (bi_n0t (by decide)) ?_
  refine ar_ldA rfl rfl ?_
  refine ar_push rfl ?_
  refine ar_put rfl (hr.at 69 (by decide) (by decide) rfl) (Nat.le_of_ble_eq_true rfl) rfl ?_
  refine ar_ldA rfl rfl ?_
  refine ar_push rfl ?_
  refine ar_put rfl (hs_eq (hr.at 69 (by decide) (by decide) rfl)) (Nat.le_of_ble_eq_true rfl) rfl ?_
  refine ar_ldA rfl rfl ?_
  refine ar_push rfl ?_
  refine ar_put rfl (hs_eq (hs_eq (hr.at 69 (by decide) (by decide) rfl))) (Nat.le_of_ble_eq_true rfl) rfl ?_
  refine ar_ldA rfl rfl ?_
  refine ar_push rfl ?_
  refine ar_put rfl (hs_eq (hs_eq (hs_eq (hr.at 69 (by decide) (by decide) rfl)))) (Nat.le_of_ble_eq_true rfl) rfl ?_
  refine ar_ldA rfl rfl ?_
  refine ar_get rfl (hs_eq (hs_eq (hs_eq (hs_eq (hr.at 69 (by decide) (by decide) rfl))))) rfl ?_
  refine ar_push rfl ?_
  refine ar_push rfl ?_
  refine ar_ast rfl (hs_ne (by decide) (hs_ne (by decide) (hs_ne (by decide) (hs_ne (by decide) (hr.at 85 (by decide) (by decide) rfl))))) (by decide) (Nat.le_of_ble_eq_true rfl) ?_
  refine ar_ldA rfl rfl ?_
  refine ar_inl (mc := 0) (ms := 0) rfl (rcv_of (hs_ne (by decide) (hs_eq (hs_eq (hs_eq (hs_eq (hr.at 69 (by decide) (by decide) rfl))))))) (Nat.le_of_ble_eq_true rfl) (Nat.le_of_ble_eq_true rfl) (by omega) (by omega) ?_
  refine ac_ink [some (.inr (.inr (some 69))), none] mt_225 (Nat.le_of_ble_eq_true rfl) rfl ?_
  refine ar_push rfl ?_
  refine ar_ldA rfl rfl ?_
  refine ar_get rfl (hs_ne (by decide) (hs_eq (hs_eq (hs_eq (hs_eq (hr.at 69 (by decide) (by decide) rfl)))))) rfl ?_
  refine ar_push rfl ?_
  refine ar_ald rfl (hs_eq (hs_ne (by decide) (hs_ne (by decide) (hs_ne (by decide) (hs_ne (by decide) (hr.at 85 (by decide) (by decide) rfl)))))) (by decide) rfl ?_
  refine ar_bink (z := 671) rfl (by decide) ?_
  refine ar_svIk [some (.inr (.inr (some 69))), some (.inl 671)] rfl rfl ?_
  refine ar_ldA rfl rfl ?_
  refine ar_get rfl (hs_ne (by decide) (hs_eq (hs_eq (hs_eq (hs_eq (hr.at 69 (by decide) (by decide) rfl)))))) rfl ?_
  refine ar_ldI rfl rfl ?_
  refine ar_ldA rfl rfl ?_
  refine ar_get rfl (hs_ne (by decide) (hs_eq (hs_eq (hs_eq (hs_eq (hr.at 69 (by decide) (by decide) rfl)))))) rfl ?_
  refine ar_un rfl ?_
  refine ar_ast rfl (hs_ne (by decide) (hs_ne (by decide) (hs_ne (by decide) (hs_ne (by decide) (hs_ne (by decide) (hr.at 86 (by decide) (by decide) rfl)))))) (by decide) (Nat.le_of_ble_eq_true rfl) ?_
  refine ar_ldA rfl rfl ?_
  refine ar_inl (mc := 0) (ms := 0) rfl (rcv_of (hs_ne (by decide) (hs_ne (by decide) (hs_eq (hs_eq (hs_eq (hs_eq (hr.at 69 (by decide) (by decide) rfl)))))))) (Nat.le_of_ble_eq_true rfl) (Nat.le_of_ble_eq_true rfl) (by omega) (by omega) ?_
  refine ac_ink [some (.inr (.inr (some 69)))] mt_224 (Nat.le_of_ble_eq_true rfl) rfl ?_
  refine ar_ldA rfl rfl ?_
  refine ar_inl (mc := 0) (ms := 0) rfl (rcv_of (hs_ne (by decide) (hs_ne (by decide) (hs_eq (hs_eq (hs_eq (hs_eq (hr.at 69 (by decide) (by decide) rfl)))))))) (Nat.le_of_ble_eq_true rfl) (Nat.le_of_ble_eq_true rfl) (by omega) (by omega) ?_
  refine ac_ink [some (.inr (.inr (some 69)))] mt_223 (Nat.le_of_ble_eq_true rfl) rfl ?_
  refine ar_ldA rfl rfl ?_
  refine ar_inl (mc := 0) (ms := 0) rfl (rcv_of (hs_ne (by decide) (hs_ne (by decide) (hs_eq (hs_eq (hs_eq (hs_eq (hr.at 69 (by decide) (by decide) rfl)))))))) (Nat.le_of_ble_eq_true rfl) (Nat.le_of_ble_eq_true rfl) (by omega) (by omega) ?_
  refine ac_ink [some (.inr (.inr (some 69))), none] mt_222 (Nat.le_of_ble_eq_true rfl) rfl ?_
  refine ar_ldA rfl rfl ?_
  refine ar_inl (mc := 0) (ms := 0) rfl (rcv_of (hs_ne (by decide) (hs_ne (by decide) (hs_eq (hs_eq (hs_eq (hs_eq (hr.at 69 (by decide) (by decide) rfl)))))))) (Nat.le_of_ble_eq_true rfl) (Nat.le_of_ble_eq_true rfl) (by omega) (by omega) ?_
  refine ac_ink [some (.inr (.inr (some 69))), none] mt_221 (Nat.le_of_ble_eq_true rfl) rfl ?_
  refine ar_ldA rfl rfl ?_
  refine ar_inl (mc := 0) (ms := 0) rfl (rcv_of (hs_ne (by decide) (hs_ne (by decide) (hs_eq (hs_eq (hs_eq (hs_eq (hr.at 69 (by decide) (by decide) rfl)))))))) (Nat.le_of_ble_eq_true rfl) (Nat.le_of_ble_eq_true rfl) (by omega) (by omega) ?_
  refine ac_ink [some (.inr (.inr (some 69))), none] mt_220 (Nat.le_of_ble_eq_true rfl) rfl ?_
  refine ar_ldA rfl rfl ?_
  refine ar_inl (mc := 0) (ms := 0) rfl (rcv_of (hs_ne (by decide) (hs_ne (by decide) (hs_eq (hs_eq (hs_eq (hs_eq (hr.at 69 (by decide) (by decide) rfl)))))))) (Nat.le_of_ble_eq_true rfl) (Nat.le_of_ble_eq_true rfl) (by omega) (by omega) ?_
  refine ac_ink [some (.inr (.inr (some 69))), none] mt_219 (Nat.le_of_ble_eq_true rfl) rfl ?_
  refine ar_ldA rfl rfl ?_
  refine ar_inl (mc := 0) (ms := 0) rfl (rcv_of (hs_ne (by decide) (hs_ne (by decide) (hs_eq (hs_eq (hs_eq (hs_eq (hr.at 69 (by decide) (by decide) rfl)))))))) (Nat.le_of_ble_eq_true rfl) (Nat.le_of_ble_eq_true rfl) (by omega) (by omega) ?_
  refine ac_ink [some (.inr (.inr (some 69)))] mt_213 (Nat.le_of_ble_eq_true rfl) rfl ?_
  refine ar_ldA rfl rfl ?_
  refine ar_get rfl (hs_ne (by decide) (hs_ne (by decide) (hs_eq (hs_eq (hs_eq (hs_eq (hr.at 69 (by decide) (by decide) rfl))))))) rfl ?_
  refine ar_ldA rfl rfl ?_
  refine ar_get rfl (hs_ne (by decide) (hs_ne (by decide) (hs_eq (hs_eq (hs_eq (hs_eq (hr.at 69 (by decide) (by decide) rfl))))))) rfl ?_
  refine ar_if2t rfl (by decide) ?_
  refine ar_push rfl ?_
  refine ar_ret rfl rfl ?_
  show aRun _ (aCall Mt _) _ 4 (_, [_], _, _, _)
  refine ar_svIk [some (.inr (.inr (some 69))), some (.inl (-1))] rfl rfl ?_
  refine ar_ldI rfl rfl ?_
  refine ar_inl (mc := 0) (ms := 0) rfl rfl (Nat.le_of_ble_eq_true rfl) (Nat.le_of_ble_eq_true rfl) (by omega) (by omega) ?_
  refine ac_ink [some (.inl (-1))] mt_216 (Nat.le_of_ble_eq_true rfl) rfl ?_
  refine ar_ldI rfl rfl ?_
  refine ar_tabO rfl (by decide) ?_
  refine ar_push rfl ?_
  refine ar_ret rfl rfl ?_
  show aRun _ (aCall Mt _) _ 9 (_, [_], _, _, _)
  refine ar_if1t rfl (by decide) ?_
  refine ar_ldI rfl rfl ?_
  refine ar_push rfl ?_
  refine ar_if2f rfl (by decide) ?_
  refine ar_ldI rfl rfl ?_
  refine ar_push rfl ?_
  refine ar_if2t rfl (by decide) ?_
  refine ar_ldI rfl rfl ?_
  refine ar_push rfl ?_
  refine ar_if2t rfl (by decide) ?_
  refine ar_ldA rfl rfl ?_
  refine ar_inl (mc := 0) (ms := 0) rfl (rcv_of (hs_ne (by decide) (hs_ne (by decide) (hs_eq (hs_eq (hs_eq (hs_eq (hr.at 69 (by decide) (by decide) rfl)))))))) (Nat.le_of_ble_eq_true rfl) (Nat.le_of_ble_eq_true rfl) (by omega) (by omega) ?_
  refine ac_ink [some (.inr (.inr (some 69))), none, none] mt_218 (Nat.le_of_ble_eq_true rfl) rfl ?_
  refine ar_push rfl ?_
  refine ar_svIk [some (.inr (.inr (some 69))), some (.inl 0), none] rfl rfl ?_
  refine ar_push rfl ?_
  refine ar_svIk [some (.inr (.inr (some 69))), some (.inl 0), some (.inl 0)] rfl rfl ?_
  refine ar_ldI rfl rfl ?_
  refine ar_push rfl ?_
  refine ar_if2f rfl (by decide) ?_
  refine ar_ldA rfl rfl ?_
  refine ar_inl (mc := 0) (ms := 0) rfl (rcv_of (hs_ne (by decide) (hs_ne (by decide) (hs_eq (hs_eq (hs_eq (hs_eq (hr.at 69 (by decide) (by decide) rfl)))))))) (Nat.le_of_ble_eq_true rfl) (Nat.le_of_ble_eq_true rfl) (by omega) (by omega) ?_
  refine ac_ink [some (.inr (.inr (some 69)))] mt_213 (Nat.le_of_ble_eq_true rfl) rfl ?_
  refine ar_ldA rfl rfl ?_
  refine ar_get rfl (hs_ne (by decide) (hs_ne (by decide) (hs_eq (hs_eq (hs_eq (hs_eq (hr.at 69 (by decide) (by decide) rfl))))))) rfl ?_
  refine ar_ldA rfl rfl ?_
  refine ar_get rfl (hs_ne (by decide) (hs_ne (by decide) (hs_eq (hs_eq (hs_eq (hs_eq (hr.at 69 (by decide) (by decide) rfl))))))) rfl ?_
  refine ar_if2t rfl (by decide) ?_
  refine ar_push rfl ?_
  refine ar_ret rfl rfl ?_
  show aRun _ (aCall Mt _) _ 14 (_, [_], _, _, _)
  refine ar_push rfl ?_
  refine ar_push rfl ?_
  refine ar_callv rfl rfl (Nat.le_of_ble_eq_true rfl) (Nat.le_of_ble_eq_true rfl) rfl (sp_in _ _ _ _ _) ?_
  refine ar_if1t rfl (bi_e0t (by decide)) ?_
  refine ar_ldI rfl rfl ?_
  refine ar_if1t rfl (by decide) ?_
  refine ar_ldA rfl rfl ?_
  refine ar_inl (mc := 0) (ms := 0) rfl (rcv_of (hs_ne (by decide) (hs_ne (by decide) (hs_eq (hs_eq (hs_eq (hs_eq (hr.at 69 (by decide) (by decide) rfl)))))))) (Nat.le_of_ble_eq_true rfl) (Nat.le_of_ble_eq_true rfl) (by omega) (by omega) ?_
  refine ac_ink [some (.inr (.inr (some 69)))] mt_214 (Nat.le_of_ble_eq_true rfl) rfl ?_
  refine ar_ldA rfl rfl ?_
  refine ar_get rfl (hs_ne (by decide) (hs_ne (by decide) (hs_eq (hs_eq (hs_eq (hs_eq (hr.at 69 (by decide) (by decide) rfl))))))) rfl ?_
  refine ar_if1f rfl (by decide) ?_
  refine ar_ldA rfl rfl ?_
  refine ar_ldA rfl rfl ?_
  refine ar_get rfl (hs_ne (by decide) (hs_ne (by decide) (hs_eq (hs_eq (hs_eq (hs_eq (hr.at 69 (by decide) (by decide) rfl))))))) rfl ?_
  refine ar_put rfl (hs_ne (by decide) (hs_ne (by decide) (hs_eq (hs_eq (hs_eq (hs_eq (hr.at 69 (by decide) (by decide) rfl))))))) (Nat.le_of_ble_eq_true rfl) rfl ?_
  refine ar_ret0 rfl ?_
  show aRun _ (aCall Mt _) _ 75 (_, [], _, _, _)
  refine ar_ldA rfl rfl ?_
  refine ar_push rfl ?_
  refine ar_ldI rfl rfl ?_
  refine ar_inl (mc := 0) (ms := 0) rfl (rcv_of (hs_eq (hs_ne (by decide) (hs_ne (by decide) (hs_eq (hs_eq (hs_eq (hs_eq (hr.at 69 (by decide) (by decide) rfl))))))))) (Nat.le_of_ble_eq_true rfl) (Nat.le_of_ble_eq_true rfl) (by omega) (by omega) ?_
  refine ac_ink [some (.inr (.inr (some 69))), some (.inl 1), some (.inl 0)] mt_215 (Nat.le_of_ble_eq_true rfl) rfl ?_
  refine ar_ldA rfl rfl ?_
  refine ar_get rfl (hs_eq (hs_ne (by decide) (hs_ne (by decide) (hs_eq (hs_eq (hs_eq (hs_eq (hr.at 69 (by decide) (by decide) rfl)))))))) rfl ?_
  refine ar_push rfl ?_
  refine ar_ldA rfl rfl ?_
  refine ar_get rfl (hs_eq (hs_ne (by decide) (hs_ne (by decide) (hs_eq (hs_eq (hs_eq (hs_eq (hr.at 69 (by decide) (by decide) rfl)))))))) rfl ?_
  refine ar_bink (z := 1430) rfl (by decide) ?_
  refine ar_ldI rfl rfl ?_
  refine ar_un rfl ?_
  refine ar_ast rfl (hs_ne (by decide) (hs_ne (by decide) (hs_ne (by decide) (hs_ne (by decide) (hs_ne (by decide) (hs_ne (by decide) (hs_ne (by decide) (hr.at 83 (by decide) (by decide) rfl)))))))) (by decide) (Nat.le_of_ble_eq_true rfl) ?_
  refine ar_ldA rfl rfl ?_
  refine ar_get rfl (hs_ne (by decide) (hs_eq (hs_ne (by decide) (hs_ne (by decide) (hs_eq (hs_eq (hs_eq (hs_eq (hr.at 69 (by decide) (by decide) rfl))))))))) rfl ?_
  refine ar_push rfl ?_
  refine ar_ldA rfl rfl ?_
  refine ar_get rfl (hs_ne (by decide) (hs_eq (hs_ne (by decide) (hs_ne (by decide) (hs_eq (hs_eq (hs_eq (hs_eq (hr.at 69 (by decide) (by decide) rfl))))))))) rfl ?_
  refine ar_bink (z := 1430) rfl (by decide) ?_
  refine ar_ldI rfl rfl ?_
  refine ar_ast rfl (hs_ne (by decide) (hs_ne (by decide) (hs_ne (by decide) (hs_ne (by decide) (hs_ne (by decide) (hs_ne (by decide) (hs_ne (by decide) (hs_ne (by decide) (hr.at 84 (by decide) (by decide) rfl))))))))) (by decide) (Nat.le_of_ble_eq_true rfl) ?_
  refine ar_ldA rfl rfl ?_
  refine ar_dup rfl rfl ?_
  refine ar_get rfl (hs_ne (by decide) (hs_ne (by decide) (hs_eq (hs_ne (by decide) (hs_ne (by decide) (hs_eq (hs_eq (hs_eq (hs_eq (hr.at 69 (by decide) (by decide) rfl)))))))))) rfl ?_
  refine ar_push rfl ?_
  refine ar_bink (z := 1) rfl (by decide) ?_
  refine ar_put rfl (hs_ne (by decide) (hs_ne (by decide) (hs_eq (hs_ne (by decide) (hs_ne (by decide) (hs_eq (hs_eq (hs_eq (hs_eq (hr.at 69 (by decide) (by decide) rfl)))))))))) (Nat.le_of_ble_eq_true rfl) rfl ?_
  refine ar_ret0 rfl ?_
  show aRun _ (aCall Mt _) _ 81 (_, [], _, _, _)
  refine ar_ret0 rfl ?_
  show aRun _ (aCall Mt _) _ 154 (_, [], _, _, _)
  refine ar_ret0 rfl ?_
  show aRun _ (aCall Mt _) _ 4 (_, [], _, _, _)
  refine ar_ldA rfl rfl ?_
  refine ar_get rfl (hs_eq (hs_ne (by decide) (hs_ne (by decide) (hs_eq (hs_ne (by decide) (hs_ne (by decide) (hs_eq (hs_eq (hs_eq (hs_eq (hr.at 69 (by decide) (by decide) rfl))))))))))) rfl ?_
  refine ar_if1t rfl (by decide) ?_
  refine ar_ret0 rfl ?_
  show aRun _ (aCall Mt _) _ 4 (_, [], _, _, _)
  refine ar_ldA rfl rfl ?_
  refine ar_get rfl (hs_eq (hs_ne (by decide) (hs_ne (by decide) (hs_eq (hs_ne (by decide) (hs_ne (by decide) (hs_eq (hs_eq (hs_eq (hs_eq (hr.at 69 (by decide) (by decide) rfl))))))))))) rfl ?_
  refine ar_if1t rfl (by decide) ?_
  refine ar_ret0 rfl ?_
  show aRun _ (aCall Mt _) _ 4 (_, [], _, _, _)
  refine ar_ldA rfl rfl ?_
  refine ar_inl (mc := 0) (ms := 0) rfl (rcv_of (hs_eq (hs_ne (by decide) (hs_ne (by decide) (hs_eq (hs_ne (by decide) (hs_ne (by decide) (hs_eq (hs_eq (hs_eq (hs_eq (hr.at 69 (by decide) (by decide) rfl)))))))))))) (Nat.le_of_ble_eq_true rfl) (Nat.le_of_ble_eq_true rfl) (by omega) (by omega) ?_
  refine ac_ink [some (.inr (.inr (some 69)))] mt_213 (Nat.le_of_ble_eq_true rfl) rfl ?_
  refine ar_ldA rfl rfl ?_
  refine ar_get rfl (hs_eq (hs_ne (by decide) (hs_ne (by decide) (hs_eq (hs_ne (by decide) (hs_ne (by decide) (hs_eq (hs_eq (hs_eq (hs_eq (hr.at 69 (by decide) (by decide) rfl))))))))))) rfl ?_
  refine ar_ldA rfl rfl ?_
  refine ar_get rfl (hs_eq (hs_ne (by decide) (hs_ne (by decide) (hs_eq (hs_ne (by decide) (hs_ne (by decide) (hs_eq (hs_eq (hs_eq (hs_eq (hr.at 69 (by decide) (by decide) rfl))))))))))) rfl ?_
  refine ar_if2t rfl (by decide) ?_
  refine ar_push rfl ?_
  refine ar_ret rfl rfl ?_
  show aRun _ (aCall Mt _) _ 8 (_, [_], _, _, _)
  refine ar_svIk [some (.inr (.inr (some 69))), some (.inl (-1))] rfl rfl ?_
  refine ar_ldA rfl rfl ?_
  refine ar_get rfl (hs_eq (hs_ne (by decide) (hs_ne (by decide) (hs_eq (hs_ne (by decide) (hs_ne (by decide) (hs_eq (hs_eq (hs_eq (hs_eq (hr.at 69 (by decide) (by decide) rfl))))))))))) rfl ?_
  refine ar_if1t rfl (by decide) ?_
  refine ar_ret0 rfl ?_
  show aRun _ (aCall Mt _) _ 4 (_, [], _, _, _)
  refine ar_ldA rfl rfl ?_
  refine ar_get rfl (hs_eq (hs_ne (by decide) (hs_ne (by decide) (hs_eq (hs_ne (by decide) (hs_ne (by decide) (hs_eq (hs_eq (hs_eq (hs_eq (hr.at 69 (by decide) (by decide) rfl))))))))))) rfl ?_
  refine ar_if1t rfl (by decide) ?_
  refine ar_ret0 rfl ?_
  show aRun _ (aCall Mt _) _ 4 (_, [], _, _, _)
  refine ar_ldA rfl rfl ?_
  refine ar_get rfl (hs_eq (hs_ne (by decide) (hs_ne (by decide) (hs_eq (hs_ne (by decide) (hs_ne (by decide) (hs_eq (hs_eq (hs_eq (hs_eq (hr.at 69 (by decide) (by decide) rfl))))))))))) rfl ?_
  refine ar_if1t rfl (by decide) ?_
  refine ar_ret0 rfl ?_
  show aRun _ (aCall Mt _) _ 27 (_, [], _, _, _)
  refine ar_ldA rfl rfl ?_
  refine ar_get rfl (hs_eq (hs_ne (by decide) (hs_ne (by decide) (hs_eq (hs_ne (by decide) (hs_ne (by decide) (hs_eq (hs_eq (hs_eq (hs_eq (hr.at 69 (by decide) (by decide) rfl))))))))))) rfl ?_
  refine ar_if1t rfl (by decide) ?_
  refine ar_ldA rfl rfl ?_
  refine ar_get rfl (hs_eq (hs_ne (by decide) (hs_ne (by decide) (hs_eq (hs_ne (by decide) (hs_ne (by decide) (hs_eq (hs_eq (hs_eq (hs_eq (hr.at 69 (by decide) (by decide) rfl))))))))))) rfl ?_
  refine ar_ldI rfl rfl ?_
  refine ar_ldA rfl rfl ?_
  refine ar_get rfl (hs_eq (hs_ne (by decide) (hs_ne (by decide) (hs_eq (hs_ne (by decide) (hs_ne (by decide) (hs_eq (hs_eq (hs_eq (hs_eq (hr.at 69 (by decide) (by decide) rfl))))))))))) rfl ?_
  refine ar_un rfl ?_
  refine ar_ast rfl (hs_ne (by decide) (hs_ne (by decide) (hs_ne (by decide) (hs_ne (by decide) (hs_ne (by decide) (hs_ne (by decide) (hs_ne (by decide) (hs_ne (by decide) (hs_ne (by decide) (hs_ne (by decide) (hr.at 87 (by decide) (by decide) rfl))))))))))) (by decide) (Nat.le_of_ble_eq_true rfl) ?_
  refine ar_ldA rfl rfl ?_
  refine ar_get rfl (hs_ne (by decide) (hs_eq (hs_ne (by decide) (hs_ne (by decide) (hs_eq (hs_ne (by decide) (hs_ne (by decide) (hs_eq (hs_eq (hs_eq (hs_eq (hr.at 69 (by decide) (by decide) rfl)))))))))))) rfl ?_
  refine ar_push rfl ?_
  refine ar_dup2 rfl rfl rfl ?_
  refine ar_ald rfl (hs_ne (by decide) (hs_ne (by decide) (hs_ne (by decide) (hs_ne (by decide) (hs_ne (by decide) (hs_ne (by decide) (hs_eq (hs_ne (by decide) (hs_ne (by decide) (hs_ne (by decide) (hs_ne (by decide) (hr.at 85 (by decide) (by decide) rfl)))))))))))) (by decide) rfl ?_
  refine ar_push rfl ?_
  refine ar_bink (z := 1) rfl (by decide) ?_
  refine ar_ast rfl (hs_ne (by decide) (hs_ne (by decide) (hs_ne (by decide) (hs_ne (by decide) (hs_ne (by decide) (hs_ne (by decide) (hs_eq (hs_ne (by decide) (hs_ne (by decide) (hs_ne (by decide) (hs_ne (by decide) (hr.at 85 (by decide) (by decide) rfl)))))))))))) (by decide) (Nat.le_of_ble_eq_true rfl) ?_
  refine ar_ret0 rfl ?_
  show aRun _ (aCall Mt _) _ 54 (_, [], _, _, _)
  refine ar_ldA rfl rfl ?_
  refine ar_get rfl (hs_ne (by decide) (hs_ne (by decide) (hs_eq (hs_ne (by decide) (hs_ne (by decide) (hs_eq (hs_ne (by decide) (hs_ne (by decide) (hs_eq (hs_eq (hs_eq (hs_eq (hr.at 69 (by decide) (by decide) rfl))))))))))))) rfl ?_
  refine ar_if1t rfl (by decide) ?_
  refine ar_ldA rfl rfl ?_
  refine ar_get rfl (hs_ne (by decide) (hs_ne (by decide) (hs_eq (hs_ne (by decide) (hs_ne (by decide) (hs_eq (hs_ne (by decide) (hs_ne (by decide) (hs_eq (hs_eq (hs_eq (hs_eq (hr.at 69 (by decide) (by decide) rfl))))))))))))) rfl ?_
  refine ar_if1t rfl (by decide) ?_
  refine ar_ldA rfl rfl ?_
  refine ar_push rfl ?_
  refine ar_put rfl (hs_ne (by decide) (hs_ne (by decide) (hs_eq (hs_ne (by decide) (hs_ne (by decide) (hs_eq (hs_ne (by decide) (hs_ne (by decide) (hs_eq (hs_eq (hs_eq (hs_eq (hr.at 69 (by decide) (by decide) rfl))))))))))))) (Nat.le_of_ble_eq_true rfl) rfl ?_
  refine ar_ldA rfl rfl ?_
  refine ar_get rfl (hs_eq (hs_ne (by decide) (hs_ne (by decide) (hs_eq (hs_ne (by decide) (hs_ne (by decide) (hs_eq (hs_ne (by decide) (hs_ne (by decide) (hs_eq (hs_eq (hs_eq (hs_eq (hr.at 69 (by decide) (by decide) rfl)))))))))))))) rfl ?_
  refine ar_if1f rfl (by decide) ?_
  refine ar_push rfl ?_
  refine ar_ldA rfl rfl ?_
  refine ar_get rfl (hs_eq (hs_ne (by decide) (hs_ne (by decide) (hs_eq (hs_ne (by decide) (hs_ne (by decide) (hs_eq (hs_ne (by decide) (hs_ne (by decide) (hs_eq (hs_eq (hs_eq (hs_eq (hr.at 69 (by decide) (by decide) rfl)))))))))))))) rfl ?_
  refine ar_bink (z := (-100)) rfl (by decide) ?_
  refine ar_ret rfl rfl ?_
  exact ⟨rfl, hJ _ _ _⟩
set_option maxRecDepth 20000 in
set_option maxHeartbeats 4000000 in
theorem p1_7_18 (J : aH → Nat → Nat → Prop) (hJ : ∀ h a b, J h a b) (kc ks : Nat) (hkc : 1000 ≤ kc) (hks : 100000 ≤ ks) : aPairI 0 69 131 227 [.inl 18] J hF kc ks := by
  refine ⟨0, 0, _, by omega, by omega, rfl, ?_⟩
  refine ac_ink [some (.inr (.inr (some 0))), some (.inl 18), none, none] mt_131 (Nat.le_of_ble_eq_true rfl) rfl ?_
  refine ar_ldA rfl rfl ?_
  refine ar_ldI rfl rfl ?_
  refine ar_inl (mc := 0) (ms := 0) rfl (rcv_of rfl) (Nat.le_of_ble_eq_true rfl) (Nat.le_of_ble_eq_true rfl) (by omega) (by omega) ?_
  refine ac_ink [some (.inr (.inr (some 0))), some (.inl 18)] mt_166 (Nat.le_of_ble_eq_true rfl) rfl ?_
  refine ar_ldI rfl rfl ?_
  refine ar_if1t rfl (by decide) ?_
  refine ar_ldI rfl rfl ?_
  refine ar_push rfl ?_
  refine ar_if2t rfl (by decide) ?_
  refine ar_ldA rfl rfl ?_
  refine ar_get rfl rfl rfl ?_
  refine ar_ldI rfl rfl ?_
  refine ar_push rfl ?_
  refine ar_bink (z := 8) rfl (by decide) ?_
  refine ar_inl (mc := 0) (ms := 0) rfl (rcv_of rfl) (Nat.le_of_ble_eq_true rfl) (Nat.le_of_ble_eq_true rfl) (by omega) (by omega) ?_
  refine ac_ink [some (.inr (.inr (some 15))), some (.inl 8)] mt_7 (Nat.le_of_ble_eq_true rfl) rfl ?_
  refine ar_ldI rfl rfl ?_
  refine ar_inl (mc := 0) (ms := 0) rfl rfl (Nat.le_of_ble_eq_true rfl) (Nat.le_of_ble_eq_true rfl) (by omega) (by omega) ?_
  refine ac_ink [some (.inl 8)] mt_175 (Nat.le_of_ble_eq_true rfl) rfl ?_
  refine ar_ldI rfl rfl ?_
  refine ar_push rfl ?_
  refine ar_push rfl ?_
  refine ar_callv rfl rfl (Nat.le_of_ble_eq_true rfl) (Nat.le_of_ble_eq_true rfl) rfl (sp_within _ _ _ _ _) ?_
  refine ar_ret rfl (bi_ret _) ?_
  show aRun _ (aCall Mt _) _ 4 (_, [_], _, _, _)
  refine ar_if1f rfl (bi_e0f (by decide)) ?_
  refine ar_ldA rfl rfl ?_
  refine ar_get rfl rfl rfl ?_
  refine ar_ldI rfl rfl ?_
  refine ar_aldA rfl rfl (by decide) rfl ?_
  refine ar_go rfl ?_
  refine ar_ret rfl rfl ?_
  show aRun _ (aCall Mt _) _ 36 (_, [_], _, _, _)
  refine ar_ret rfl rfl ?_
  show aRun _ (aCall Mt _) _ 5 (_, [_], _, _, _)
  refine ar_svAk [some (.inr (.inr (some 0))), some (.inl 18), some (.inr (.inr (some 39))), none] rfl rfl ?_
  refine ar_ldA rfl rfl ?_
  refine ar_nulS rfl ?_
  refine ar_ldA rfl rfl ?_
  refine ar_get rfl rfl rfl ?_
  refine ar_ldA rfl rfl ?_
  refine ar_inl (mc := 0) (ms := 0) rfl (rcv_of rfl) (Nat.le_of_ble_eq_true rfl) (Nat.le_of_ble_eq_true rfl) (by omega) (by omega) ?_
  refine ac_ink [some (.inr (.inr (some 5))), some (.inr (.inr (some 39))), none] mt_94 (Nat.le_of_ble_eq_true rfl) rfl ?_
  refine ar_ldA rfl rfl ?_
  refine ar_push rfl ?_
  refine ar_put rfl rfl (Nat.le_of_ble_eq_true rfl) rfl ?_
  refine ar_ldA rfl rfl ?_
  refine ar_push rfl ?_
  refine ar_put rfl (hs_eq rfl) (Nat.le_of_ble_eq_true rfl) rfl ?_
  refine ar_ldA rfl rfl ?_
  refine ar_push rfl ?_
  refine ar_put rfl (hs_eq (hs_eq rfl)) (Nat.le_of_ble_eq_true rfl) rfl ?_
  refine ar_ldA rfl rfl ?_
  refine ar_inl (mc := 0) (ms := 0) rfl (rcv_of (hs_eq (hs_eq (hs_eq rfl)))) (Nat.le_of_ble_eq_true rfl) (Nat.le_of_ble_eq_true rfl) (by omega) (by omega) ?_
  refine ac_ink [some (.inr (.inr (some 5))), none] mt_100 (Nat.le_of_ble_eq_true rfl) rfl ?_
  refine ar_ldA rfl rfl ?_
  refine ar_push rfl ?_
  refine ar_inl (mc := 0) (ms := 0) rfl (rcv_of (hs_eq (hs_eq (hs_eq rfl)))) (Nat.le_of_ble_eq_true rfl) (Nat.le_of_ble_eq_true rfl) (by omega) (by omega) ?_
  refine ac_ink [some (.inr (.inr (some 5))), some (.inl 0), none] mt_101 (Nat.le_of_ble_eq_true rfl) rfl ?_
  refine ar_ldA rfl rfl ?_
  refine ar_ldI rfl rfl ?_
  refine ar_inl (mc := 0) (ms := 0) rfl (rcv_of (hs_eq (hs_eq (hs_eq rfl)))) (Nat.le_of_ble_eq_true rfl) (Nat.le_of_ble_eq_true rfl) (by omega) (by omega) ?_
  refine ac_ink [some (.inr (.inr (some 5))), some (.inl 0), none] mt_102 (Nat.le_of_ble_eq_true rfl) rfl ?_
  refine ar_ldA rfl rfl ?_
  refine ar_ldI rfl rfl ?_
  refine ar_inl (mc := 0) (ms := 0) rfl (rcv_of (hs_eq (hs_eq (hs_eq rfl)))) (Nat.le_of_ble_eq_true rfl) (Nat.le_of_ble_eq_true rfl) (by omega) (by omega) ?_
  refine ac_ink [some (.inr (.inr (some 5))), some (.inl 0), none] mt_103 (Nat.le_of_ble_eq_true rfl) rfl ?_
  refine ar_ldA rfl rfl ?_
  refine ar_ldI rfl rfl ?_
  refine ar_inl (mc := 0) (ms := 0) rfl (rcv_of (hs_eq (hs_eq (hs_eq rfl)))) (Nat.le_of_ble_eq_true rfl) (Nat.le_of_ble_eq_true rfl) (by omega) (by omega) ?_
  refine ac_ink [some (.inr (.inr (some 5))), some (.inl 0), none, none] mt_104 (Nat.le_of_ble_eq_true rfl) rfl ?_
  refine ar_ldA rfl rfl ?_
  refine ar_ldI rfl rfl ?_
  refine ar_inl (mc := 0) (ms := 0) rfl (rcv_of (hs_eq (hs_eq (hs_eq rfl)))) (Nat.le_of_ble_eq_true rfl) (Nat.le_of_ble_eq_true rfl) (by omega) (by omega) ?_
  refine ac_ink [some (.inr (.inr (some 5))), some (.inl 0), none, none] mt_105 (Nat.le_of_ble_eq_true rfl) rfl ?_
  refine ar_ldA rfl rfl ?_
  refine ar_ldI rfl rfl ?_
  refine ar_inl (mc := 0) (ms := 0) rfl (rcv_of (hs_eq (hs_eq (hs_eq rfl)))) (Nat.le_of_ble_eq_true rfl) (Nat.le_of_ble_eq_true rfl) (by omega) (by omega) ?_
  refine ac_ink [some (.inr (.inr (some 5))), some (.inl 0), none] mt_106 (Nat.le_of_ble_eq_true rfl) rfl ?_
  refine ar_ldA rfl rfl ?_
  refine ar_inl (mc := 0) (ms := 0) rfl (rcv_of (hs_eq (hs_eq (hs_eq rfl)))) (Nat.le_of_ble_eq_true rfl) (Nat.le_of_ble_eq_true rfl) (by omega) (by omega) ?_
  refine ac_ink [some (.inr (.inr (some 5)))] mt_95 (Nat.le_of_ble_eq_true rfl) rfl ?_
  refine ar_ldA rfl rfl ?_
  refine ar_get rfl (hs_eq (hs_eq (hs_eq rfl))) rfl ?_
  refine ar_if1f rfl (by decide) ?_
  refine ar_ldA rfl rfl ?_
  refine ar_get rfl (hs_eq (hs_eq (hs_eq rfl))) rfl ?_
  refine ar_ldA rfl rfl ?_
  refine ar_get rfl (hs_eq (hs_eq (hs_eq rfl))) rfl ?_
  refine ar_if2t rfl (by decide) ?_
  refine ar_push rfl ?_
  refine ar_ret rfl rfl ?_
  show aRun _ (aCall Mt _) _ 4 (_, [_], _, _, _)
  refine ar_svIk [some (.inr (.inr (some 5))), some (.inl 0), some (.inl (-1))] rfl rfl ?_
  refine ar_ldI rfl rfl ?_
  refine ar_push rfl ?_
  refine ar_push rfl ?_
  refine ar_callv rfl rfl (Nat.le_of_ble_eq_true rfl) (Nat.le_of_ble_eq_true rfl) rfl (sp_within _ _ _ _ _) ?_
  refine ar_if1t rfl (bi_e0t (by decide)) ?_
  refine ar_ldI rfl rfl ?_
  refine ar_push rfl ?_
  refine ar_push rfl ?_
  refine ar_callv rfl rfl (Nat.le_of_ble_eq_true rfl) (Nat.le_of_ble_eq_true rfl) rfl (sp_within _ _ _ _ _) ?_
  refine ar_if1t rfl (bi_e0t (by decide)) ?_
  refine ar_ldI rfl rfl ?_
  refine ar_push rfl ?_
  refine ar_if2t rfl (by decide) ?_
  refine ar_ldA rfl rfl ?_
  refine ar_push rfl ?_
  refine ar_inl (mc := 0) (ms := 0) rfl (rcv_of (hs_eq (hs_eq (hs_eq rfl)))) (Nat.le_of_ble_eq_true rfl) (Nat.le_of_ble_eq_true rfl) (by omega) (by omega) ?_
  refine ac_ink [some (.inr (.inr (some 5))), some (.inl 40)] mt_96 (Nat.le_of_ble_eq_true rfl) rfl ?_
  refine ar_ldA rfl rfl ?_
  refine ar_inl (mc := 0) (ms := 0) rfl (rcv_of (hs_eq (hs_eq (hs_eq rfl)))) (Nat.le_of_ble_eq_true rfl) (Nat.le_of_ble_eq_true rfl) (by omega) (by omega) ?_
  refine ac_ink [some (.inr (.inr (some 5)))] mt_95 (Nat.le_of_ble_eq_true rfl) rfl ?_
  refine ar_ldA rfl rfl ?_
  refine ar_get rfl (hs_eq (hs_eq (hs_eq rfl))) rfl ?_
  refine ar_if1f rfl (by decide) ?_
  refine ar_ldA rfl rfl ?_
  refine ar_get rfl (hs_eq (hs_eq (hs_eq rfl))) rfl ?_
  refine ar_ldA rfl rfl ?_
  refine ar_get rfl (hs_eq (hs_eq (hs_eq rfl))) rfl ?_
  refine ar_if2t rfl (by decide) ?_
  refine ar_push rfl ?_
  refine ar_ret rfl rfl ?_
  show aRun _ (aCall Mt _) _ 4 (_, [_], _, _, _)
  refine ar_ldI rfl rfl ?_
  refine ar_if2f rfl (by decide) ?_
  refine ar_push rfl ?_
  refine ar_ret rfl rfl ?_
  show aRun _ (aCall Mt _) _ 88 (_, [_], _, _, _)
  refine ar_if1t rfl (by decide) ?_
  refine ar_ldA rfl rfl ?_
  refine ar_push rfl ?_
  refine ar_inl (mc := 0) (ms := 0) rfl (rcv_of (hs_eq (hs_eq (hs_eq rfl)))) (Nat.le_of_ble_eq_true rfl) (Nat.le_of_ble_eq_true rfl) (by omega) (by omega) ?_
  refine ac_ink [some (.inr (.inr (some 5))), some (.inl 33)] mt_96 (Nat.le_of_ble_eq_true rfl) rfl ?_
  refine ar_ldA rfl rfl ?_
  refine ar_inl (mc := 0) (ms := 0) rfl (rcv_of (hs_eq (hs_eq (hs_eq rfl)))) (Nat.le_of_ble_eq_true rfl) (Nat.le_of_ble_eq_true rfl) (by omega) (by omega) ?_
  refine ac_ink [some (.inr (.inr (some 5)))] mt_95 (Nat.le_of_ble_eq_true rfl) rfl ?_
  refine ar_ldA rfl rfl ?_
  refine ar_get rfl (hs_eq (hs_eq (hs_eq rfl))) rfl ?_
  refine ar_if1f rfl (by decide) ?_
  refine ar_ldA rfl rfl ?_
  refine ar_get rfl (hs_eq (hs_eq (hs_eq rfl))) rfl ?_
  refine ar_ldA rfl rfl ?_
  refine ar_get rfl (hs_eq (hs_eq (hs_eq rfl))) rfl ?_
  refine ar_if2t rfl (by decide) ?_
  refine ar_push rfl ?_
  refine ar_ret rfl rfl ?_
  show aRun _ (aCall Mt _) _ 4 (_, [_], _, _, _)
  refine ar_ldI rfl rfl ?_
  refine ar_if2f rfl (by decide) ?_
  refine ar_push rfl ?_
  refine ar_ret rfl rfl ?_
  show aRun _ (aCall Mt _) _ 120 (_, [_], _, _, _)
  refine ar_if1t rfl (by decide) ?_
  refine ar_ldA rfl rfl ?_
  refine ar_push rfl ?_
  refine ar_inl (mc := 0) (ms := 0) rfl (rcv_of (hs_eq (hs_eq (hs_eq rfl)))) (Nat.le_of_ble_eq_true rfl) (Nat.le_of_ble_eq_true rfl) (by omega) (by omega) ?_
  refine ac_ink [some (.inr (.inr (some 5))), some (.inl 45)] mt_96 (Nat.le_of_ble_eq_true rfl) rfl ?_
  refine ar_ldA rfl rfl ?_
  refine ar_inl (mc := 0) (ms := 0) rfl (rcv_of (hs_eq (hs_eq (hs_eq rfl)))) (Nat.le_of_ble_eq_true rfl) (Nat.le_of_ble_eq_true rfl) (by omega) (by omega) ?_
  refine ac_ink [some (.inr (.inr (some 5)))] mt_95 (Nat.le_of_ble_eq_true rfl) rfl ?_
  refine ar_ldA rfl rfl ?_
  refine ar_get rfl (hs_eq (hs_eq (hs_eq rfl))) rfl ?_
  refine ar_if1f rfl (by decide) ?_
  refine ar_ldA rfl rfl ?_
  refine ar_get rfl (hs_eq (hs_eq (hs_eq rfl))) rfl ?_
  refine ar_ldA rfl rfl ?_
  refine ar_get rfl (hs_eq (hs_eq (hs_eq rfl))) rfl ?_
  refine ar_if2t rfl (by decide) ?_
  refine ar_push rfl ?_
  refine ar_ret rfl rfl ?_
  show aRun _ (aCall Mt _) _ 4 (_, [_], _, _, _)
  refine ar_ldI rfl rfl ?_
  refine ar_if2f rfl (by decide) ?_
  refine ar_push rfl ?_
  refine ar_ret rfl rfl ?_
  show aRun _ (aCall Mt _) _ 145 (_, [_], _, _, _)
  refine ar_if1t rfl (by decide) ?_
  refine ar_ldA rfl rfl ?_
  refine ar_inl (mc := 0) (ms := 0) rfl (rcv_of (hs_eq (hs_eq (hs_eq rfl)))) (Nat.le_of_ble_eq_true rfl) (Nat.le_of_ble_eq_true rfl) (by omega) (by omega) ?_
  refine ac_ink [some (.inr (.inr (some 5)))] mt_99 (Nat.le_of_ble_eq_true rfl) rfl ?_
  refine ar_ldA rfl rfl ?_
  refine ar_get rfl (hs_eq (hs_eq (hs_eq rfl))) rfl ?_
  refine ar_push rfl ?_
  refine ar_if2f rfl (by decide) ?_
  refine ar_ldA rfl rfl ?_
  refine ar_ldA rfl rfl ?_
  refine ar_get rfl (hs_eq (hs_eq (hs_eq rfl))) rfl ?_
  refine ar_put rfl (hs_eq (hs_eq (hs_eq rfl))) (Nat.le_of_ble_eq_true rfl) rfl ?_
  refine ar_ret0 rfl ?_
  show aRun _ (aCall Mt _) _ 168 (_, [], _, _, _)
  refine ar_ret0 rfl ?_
  show aRun _ (aCall Mt _) _ 5 (_, [], _, _, _)
  refine ar_push rfl ?_
  refine ar_svIk [some (.inr (.inr (some 5))), some (.inl 0), some (.inl 0), none] rfl rfl ?_
  refine ar_ldI rfl rfl ?_
  refine ar_ldA rfl rfl ?_
  refine ar_get rfl (hs_eq (hs_eq (hs_eq (hs_eq rfl)))) rfl ?_
  refine ar_if2t rfl (by decide) ?_
  refine ar_ret0 rfl ?_
  show aRun _ (aCall Mt _) _ 5 (_, [], _, _, _)
  refine ar_push rfl ?_
  refine ar_svIk [some (.inr (.inr (some 5))), some (.inl 0), some (.inl 0), none] rfl rfl ?_
  refine ar_ldI rfl rfl ?_
  refine ar_ldA rfl rfl ?_
  refine ar_get rfl (hs_eq (hs_eq (hs_eq (hs_eq rfl)))) rfl ?_
  refine ar_if2t rfl (by decide) ?_
  refine ar_ret0 rfl ?_
  show aRun _ (aCall Mt _) _ 5 (_, [], _, _, _)
  refine ar_ldA rfl rfl ?_
  refine ar_push rfl ?_
  refine ar_inl (mc := 0) (ms := 0) rfl (rcv_of (hs_eq (hs_eq (hs_eq (hs_eq rfl))))) (Nat.le_of_ble_eq_true rfl) (Nat.le_of_ble_eq_true rfl) (by omega) (by omega) ?_
  refine ac_ink [some (.inr (.inr (some 5))), some (.inl 60)] mt_97 (Nat.le_of_ble_eq_true rfl) rfl ?_
  refine ar_ldA rfl rfl ?_
  refine ar_get rfl (hs_eq (hs_eq (hs_eq (hs_eq rfl)))) rfl ?_
  refine ar_push rfl ?_
  refine ar_if2t rfl (by decide) ?_
  refine ar_push rfl ?_
  refine ar_ret rfl rfl ?_
  show aRun _ (aCall Mt _) _ 11 (_, [_], _, _, _)
  refine ar_if1t rfl (by decide) ?_
  refine ar_ldA rfl rfl ?_
  refine ar_push rfl ?_
  refine ar_inl (mc := 0) (ms := 0) rfl (rcv_of (hs_eq (hs_eq (hs_eq (hs_eq rfl))))) (Nat.le_of_ble_eq_true rfl) (Nat.le_of_ble_eq_true rfl) (by omega) (by omega) ?_
  refine ac_ink [some (.inr (.inr (some 5))), some (.inl 61)] mt_97 (Nat.le_of_ble_eq_true rfl) rfl ?_
  refine ar_ldA rfl rfl ?_
  refine ar_get rfl (hs_eq (hs_eq (hs_eq (hs_eq rfl)))) rfl ?_
  refine ar_push rfl ?_
  refine ar_if2t rfl (by decide) ?_
  refine ar_push rfl ?_
  refine ar_ret rfl rfl ?_
  show aRun _ (aCall Mt _) _ 25 (_, [_], _, _, _)
  refine ar_if1t rfl (by decide) ?_
  refine ar_ldA rfl rfl ?_
  refine ar_push rfl ?_
  refine ar_inl (mc := 0) (ms := 0) rfl (rcv_of (hs_eq (hs_eq (hs_eq (hs_eq rfl))))) (Nat.le_of_ble_eq_true rfl) (Nat.le_of_ble_eq_true rfl) (by omega) (by omega) ?_
  refine ac_ink [some (.inr (.inr (some 5))), some (.inl 62)] mt_97 (Nat.le_of_ble_eq_true rfl) rfl ?_
  refine ar_ldA rfl rfl ?_
  refine ar_get rfl (hs_eq (hs_eq (hs_eq (hs_eq rfl)))) rfl ?_
  refine ar_push rfl ?_
  refine ar_if2t rfl (by decide) ?_
  refine ar_push rfl ?_
  refine ar_ret rfl rfl ?_
  show aRun _ (aCall Mt _) _ 39 (_, [_], _, _, _)
  refine ar_if1t rfl (by decide) ?_
  refine ar_push rfl ?_
  refine ar_svIk [some (.inr (.inr (some 5))), some (.inl 0), some (.inl 15)] rfl rfl ?_
  refine ar_ldI rfl rfl ?_
  refine ar_push rfl ?_
  refine ar_if2f rfl (by decide) ?_
  refine ar_ret0 rfl ?_
  show aRun _ (aCall Mt _) _ 5 (_, [], _, _, _)
  refine ar_push rfl ?_
  refine ar_svIk [some (.inr (.inr (some 5))), some (.inl 0), some (.inl 0)] rfl rfl ?_
  refine ar_ldI rfl rfl ?_
  refine ar_ldA rfl rfl ?_
  refine ar_get rfl (hs_eq (hs_eq (hs_eq (hs_eq rfl)))) rfl ?_
  refine ar_if2t rfl (by decide) ?_
  refine ar_ret0 rfl ?_
  show aRun _ (aCall Mt _) _ 5 (_, [], _, _, _)
  refine ar_push rfl ?_
  refine ar_svIk [some (.inr (.inr (some 5))), some (.inl 0), some (.inl 0)] rfl rfl ?_
  refine ar_ldI rfl rfl ?_
  refine ar_ldA rfl rfl ?_
  refine ar_get rfl (hs_eq (hs_eq (hs_eq (hs_eq rfl)))) rfl ?_
  refine ar_if2t rfl (by decide) ?_
  refine ar_ret0 rfl ?_
  show aRun _ (aCall Mt _) _ 5 (_, [], _, _, _)
  refine ar_ldA rfl rfl ?_
  refine ar_push rfl ?_
  refine ar_inl (mc := 0) (ms := 0) rfl (rcv_of (hs_eq (hs_eq (hs_eq (hs_eq rfl))))) (Nat.le_of_ble_eq_true rfl) (Nat.le_of_ble_eq_true rfl) (by omega) (by omega) ?_
  refine ac_ink [some (.inr (.inr (some 5))), some (.inl 63)] mt_97 (Nat.le_of_ble_eq_true rfl) rfl ?_
  refine ar_ldA rfl rfl ?_
  refine ar_get rfl (hs_eq (hs_eq (hs_eq (hs_eq rfl)))) rfl ?_
  refine ar_push rfl ?_
  refine ar_if2t rfl (by decide) ?_
  refine ar_push rfl ?_
  refine ar_ret rfl rfl ?_
  show aRun _ (aCall Mt _) _ 11 (_, [_], _, _, _)
  refine ar_if1f rfl (by decide) ?_
  refine ar_ldA rfl rfl ?_
  refine ar_push rfl ?_
  refine ar_push rfl ?_
  refine ar_inl (mc := 0) (ms := 0) rfl (rcv_of (hs_eq (hs_eq (hs_eq (hs_eq rfl))))) (Nat.le_of_ble_eq_true rfl) (Nat.le_of_ble_eq_true rfl) (by omega) (by omega) ?_
  refine ac_ink [some (.inr (.inr (some 5))), some (.inl 15), some (.inl 0)] mt_98 (Nat.le_of_ble_eq_true rfl) rfl ?_
  refine ar_ldA rfl rfl ?_
  refine ar_get rfl (hs_eq (hs_eq (hs_eq (hs_eq rfl)))) rfl ?_
  refine ar_ldA rfl rfl ?_
  refine ar_get rfl (hs_eq (hs_eq (hs_eq (hs_eq rfl)))) rfl ?_
  refine ar_len rfl (hs_ne (by decide) (hs_ne (by decide) (hs_ne (by decide) (hs_ne (by decide) rfl)))) ?_
  refine ar_if2t rfl (by decide) ?_
  refine ar_ldA rfl rfl ?_
  refine ar_get rfl (hs_eq (hs_eq (hs_eq (hs_eq rfl)))) rfl ?_
  refine ar_ldA rfl rfl ?_
  refine ar_get rfl (hs_eq (hs_eq (hs_eq (hs_eq rfl)))) rfl ?_
  refine ar_ldI rfl rfl ?_
  refine ar_ldI rfl rfl ?_
  refine ar_inl (mc := 0) (ms := 0) rfl rfl (Nat.le_of_ble_eq_true rfl) (Nat.le_of_ble_eq_true rfl) (by omega) (by omega) ?_
  refine ac_ink [some (.inl 15), some (.inl 0)] mt_111 (Nat.le_of_ble_eq_true rfl) rfl ?_
  refine ar_ldI rfl rfl ?_
  refine ar_push rfl ?_
  refine ar_bink (z := 0) rfl (by decide) ?_
  refine ar_ldI rfl rfl ?_
  refine ar_bink (z := 15) rfl (by decide) ?_
  refine ar_ret rfl rfl ?_
  show aRun _ (aCall Mt _) _ 26 (_, [_, _, _], _, _, _)
  refine ar_ast rfl (hs_ne (by decide) (hs_ne (by decide) (hs_ne (by decide) (hs_ne (by decide) rfl)))) (by decide) (Nat.le_of_ble_eq_true rfl) ?_
  refine ar_ldA rfl rfl ?_
  refine ar_dup rfl rfl ?_
  refine ar_get rfl (hs_ne (by decide) (hs_eq (hs_eq (hs_eq (hs_eq rfl))))) rfl ?_
  refine ar_push rfl ?_
  refine ar_bink (z := 1) rfl (by decide) ?_
  refine ar_put rfl (hs_ne (by decide) (hs_eq (hs_eq (hs_eq (hs_eq rfl))))) (Nat.le_of_ble_eq_true rfl) rfl ?_
  refine ar_ret0 rfl ?_
  show aRun _ (aCall Mt _) _ 21 (_, [], _, _, _)
  refine ar_ret0 rfl ?_
  show aRun _ (aCall Mt _) _ 19 (_, [], _, _, _)
  refine ar_push rfl ?_
  refine ar_svIk [some (.inr (.inr (some 5))), some (.inr (.inr (some 39))), some (.inl 0)] rfl rfl ?_
  refine ar_ldI rfl rfl ?_
  refine ar_ldA rfl rfl ?_
  refine ar_get rfl (hs_eq (hs_ne (by decide) (hs_eq (hs_eq (hs_eq (hs_eq rfl)))))) rfl ?_
  refine ar_if2t rfl (by decide) ?_
  refine ar_ldA rfl rfl ?_
  refine ar_get rfl (hs_eq (hs_ne (by decide) (hs_eq (hs_eq (hs_eq (hs_eq rfl)))))) rfl ?_
  refine ar_push rfl ?_
  refine ar_if2t rfl (by decide) ?_
  refine ar_ldA rfl rfl ?_
  refine ar_get rfl (hs_eq (hs_ne (by decide) (hs_eq (hs_eq (hs_eq (hs_eq rfl)))))) rfl ?_
  refine ar_push rfl ?_
  refine ar_if2t rfl (by decide) ?_
  refine ar_ldA rfl rfl ?_
  refine ar_push rfl ?_
  refine ar_put rfl (hs_eq (hs_ne (by decide) (hs_eq (hs_eq (hs_eq (hs_eq rfl)))))) (Nat.le_of_ble_eq_true rfl) rfl ?_
  refine ar_ldA rfl rfl ?_
  refine ar_get rfl (hs_eq (hs_eq (hs_ne (by decide) (hs_eq (hs_eq (hs_eq (hs_eq rfl))))))) rfl ?_
  refine ar_ret rfl rfl ?_
  show aRun _ (aCall Mt _) _ 20 (_, [_], _, _, _)
  refine ar_svIk [some (.inr (.inr (some 0))), some (.inl 18), some (.inr (.inr (some 39))), some (.inl 0)] rfl rfl ?_
  refine ar_ldI rfl rfl ?_
  refine ar_push rfl ?_
  refine ar_if2f rfl (by decide) ?_
  refine ar_push rfl ?_
  refine ar_ldI rfl rfl ?_
  refine ar_bink (z := (-100)) rfl (by decide) ?_
  refine ar_ret rfl rfl ?_
  refine ⟨_, 0, 0, _, rfl, Nat.zero_le _, Nat.zero_le _, (hs_ne (by decide) (hs_ne (by decide) (hs_ne (by decide) (hs_ne (by decide) (hs_ne (by decide) (hs_ne (by decide) (hs_ne (by decide) rfl))))))), ?_⟩
  refine rgen (((((((rFr_F.sets (by decide)).sets (by decide)).sets (by decide)).sets (by decide)).sets (by decide)).sets (by decide)).sets (by decide)) (fun g hr => ?_)
  refine ac_ink [some (.inr (.inr (some 69))), some (.inl 18), none, none] mt_227 (Nat.le_of_ble_eq_true rfl) rfl ?_
  refine ar_ldI rfl rfl ?_
  refine ar_push rfl ?_
  refine ar_push rfl ?_
  refine ar_callv rfl rfl (Nat.le_of_ble_eq_true rfl) (Nat.le_of_ble_eq_true rfl) rfl (sp_in _ _ _ _ _) ?_
  refine ar_if1f rfl (bi_n0f (by decide)) ?_
  refine ar_ldI rfl rfl ?_
  refine ar_push rfl ?_
  refine ar_push rfl ?_
  refine ar_callv rfl rfl (Nat.le_of_ble_eq_true rfl) (Nat.le_of_ble_eq_true rfl) rfl (sp_in _ _ _ _ _) ?_
  refine ar_if1t rfl (bi_n0t (by decide)) ?_
  refine ar_ldA rfl rfl ?_
  refine ar_push rfl ?_
  refine ar_put rfl (hr.at 69 (by decide) (by decide) rfl) (Nat.le_of_ble_eq_true rfl) rfl ?_
  refine ar_ldA rfl rfl ?_
  refine ar_push rfl ?_
  refine ar_put rfl (hs_eq (hr.at 69 (by decide) (by decide) rfl)) (Nat.le_of_ble_eq_true rfl) rfl ?_
  refine ar_ldA rfl rfl ?_
  refine ar_push rfl ?_
  refine ar_put rfl (hs_eq (hs_eq (hr.at 69 (by decide) (by decide) rfl))) (Nat.le_of_ble_eq_true rfl) rfl ?_
  refine ar_ldA rfl rfl ?_
  refine ar_push rfl ?_
  refine ar_put rfl (hs_eq (hs_eq (hs_eq (hr.at 69 (by decide) (by decide) rfl)))) (Nat.le_of_ble_eq_true rfl) rfl ?_
  refine ar_ldA rfl rfl ?_
  refine ar_get rfl (hs_eq (hs_eq (hs_eq (hs_eq (hr.at 69 (by decide) (by decide) rfl))))) rfl ?_
  refine ar_push rfl ?_
  refine ar_push rfl ?_
  refine ar_ast rfl (hs_ne (by decide) (hs_ne (by decide) (hs_ne (by decide) (hs_ne (by decide) (hr.at 85 (by decide) (by decide) rfl))))) (by decide) (Nat.le_of_ble_eq_true rfl) ?_
  refine ar_ldA rfl rfl ?_
  refine ar_inl (mc := 0) (ms := 0) rfl (rcv_of (hs_ne (by decide) (hs_eq (hs_eq (hs_eq (hs_eq (hr.at 69 (by decide) (by decide) rfl))))))) (Nat.le_of_ble_eq_true rfl) (Nat.le_of_ble_eq_true rfl) (by omega) (by omega) ?_
  refine ac_ink [some (.inr (.inr (some 69))), none] mt_225 (Nat.le_of_ble_eq_true rfl) rfl ?_
  refine ar_push rfl ?_
  refine ar_ldA rfl rfl ?_
  refine ar_get rfl (hs_ne (by decide) (hs_eq (hs_eq (hs_eq (hs_eq (hr.at 69 (by decide) (by decide) rfl)))))) rfl ?_
  refine ar_push rfl ?_
  refine ar_ald rfl (hs_eq (hs_ne (by decide) (hs_ne (by decide) (hs_ne (by decide) (hs_ne (by decide) (hr.at 85 (by decide) (by decide) rfl)))))) (by decide) rfl ?_
  refine ar_bink (z := 671) rfl (by decide) ?_
  refine ar_svIk [some (.inr (.inr (some 69))), some (.inl 671)] rfl rfl ?_
  refine ar_ldA rfl rfl ?_
  refine ar_get rfl (hs_ne (by decide) (hs_eq (hs_eq (hs_eq (hs_eq (hr.at 69 (by decide) (by decide) rfl)))))) rfl ?_
  refine ar_ldI rfl rfl ?_
  refine ar_ldA rfl rfl ?_
  refine ar_get rfl (hs_ne (by decide) (hs_eq (hs_eq (hs_eq (hs_eq (hr.at 69 (by decide) (by decide) rfl)))))) rfl ?_
  refine ar_un rfl ?_
  refine ar_ast rfl (hs_ne (by decide) (hs_ne (by decide) (hs_ne (by decide) (hs_ne (by decide) (hs_ne (by decide) (hr.at 86 (by decide) (by decide) rfl)))))) (by decide) (Nat.le_of_ble_eq_true rfl) ?_
  refine ar_ldA rfl rfl ?_
  refine ar_inl (mc := 0) (ms := 0) rfl (rcv_of (hs_ne (by decide) (hs_ne (by decide) (hs_eq (hs_eq (hs_eq (hs_eq (hr.at 69 (by decide) (by decide) rfl)))))))) (Nat.le_of_ble_eq_true rfl) (Nat.le_of_ble_eq_true rfl) (by omega) (by omega) ?_
  refine ac_ink [some (.inr (.inr (some 69)))] mt_224 (Nat.le_of_ble_eq_true rfl) rfl ?_
  refine ar_ldA rfl rfl ?_
  refine ar_inl (mc := 0) (ms := 0) rfl (rcv_of (hs_ne (by decide) (hs_ne (by decide) (hs_eq (hs_eq (hs_eq (hs_eq (hr.at 69 (by decide) (by decide) rfl)))))))) (Nat.le_of_ble_eq_true rfl) (Nat.le_of_ble_eq_true rfl) (by omega) (by omega) ?_
  refine ac_ink [some (.inr (.inr (some 69)))] mt_223 (Nat.le_of_ble_eq_true rfl) rfl ?_
  refine ar_ldA rfl rfl ?_
  refine ar_inl (mc := 0) (ms := 0) rfl (rcv_of (hs_ne (by decide) (hs_ne (by decide) (hs_eq (hs_eq (hs_eq (hs_eq (hr.at 69 (by decide) (by decide) rfl)))))))) (Nat.le_of_ble_eq_true rfl) (Nat.le_of_ble_eq_true rfl) (by omega) (by omega) ?_
  refine ac_ink [some (.inr (.inr (some 69))), none] mt_222 (Nat.le_of_ble_eq_true rfl) rfl ?_
  refine ar_ldA rfl rfl ?_
  refine ar_inl (mc := 0) (ms := 0) rfl (rcv_of (hs_ne (by decide) (hs_ne (by decide) (hs_eq (hs_eq (hs_eq (hs_eq (hr.at 69 (by decide) (by decide) rfl)))))))) (Nat.le_of_ble_eq_true rfl) (Nat.le_of_ble_eq_true rfl) (by omega) (by omega) ?_
  refine ac_ink [some (.inr (.inr (some 69))), none] mt_221 (Nat.le_of_ble_eq_true rfl) rfl ?_
  refine ar_ldA rfl rfl ?_
  refine ar_inl (mc := 0) (ms := 0) rfl (rcv_of (hs_ne (by decide) (hs_ne (by decide) (hs_eq (hs_eq (hs_eq (hs_eq (hr.at 69 (by decide) (by decide) rfl)))))))) (Nat.le_of_ble_eq_true rfl) (Nat.le_of_ble_eq_true rfl) (by omega) (by omega) ?_
  refine ac_ink [some (.inr (.inr (some 69))), none] mt_220 (Nat.le_of_ble_eq_true rfl) rfl ?_
  refine ar_ldA rfl rfl ?_
  refine ar_inl (mc := 0) (ms := 0) rfl (rcv_of (hs_ne (by decide) (hs_ne (by decide) (hs_eq (hs_eq (hs_eq (hs_eq (hr.at 69 (by decide) (by decide) rfl)))))))) (Nat.le_of_ble_eq_true rfl) (Nat.le_of_ble_eq_true rfl) (by omega) (by omega) ?_
  refine ac_ink [some (.inr (.inr (some 69))), none] mt_219 (Nat.le_of_ble_eq_true rfl) rfl ?_
  refine ar_ldA rfl rfl ?_
  refine ar_inl (mc := 0) (ms := 0) rfl (rcv_of (hs_ne (by decide) (hs_ne (by decide) (hs_eq (hs_eq (hs_eq (hs_eq (hr.at 69 (by decide) (by decide) rfl)))))))) (Nat.le_of_ble_eq_true rfl) (Nat.le_of_ble_eq_true rfl) (by omega) (by omega) ?_
  refine ac_ink [some (.inr (.inr (some 69)))] mt_213 (Nat.le_of_ble_eq_true rfl) rfl ?_
  refine ar_ldA rfl rfl ?_
  refine ar_get rfl (hs_ne (by decide) (hs_ne (by decide) (hs_eq (hs_eq (hs_eq (hs_eq (hr.at 69 (by decide) (by decide) rfl))))))) rfl ?_
  refine ar_ldA rfl rfl ?_
  refine ar_get rfl (hs_ne (by decide) (hs_ne (by decide) (hs_eq (hs_eq (hs_eq (hs_eq (hr.at 69 (by decide) (by decide) rfl))))))) rfl ?_
  refine ar_if2t rfl (by decide) ?_
  refine ar_push rfl ?_
  refine ar_ret rfl rfl ?_
  show aRun _ (aCall Mt _) _ 4 (_, [_], _, _, _)
  refine ar_svIk [some (.inr (.inr (some 69))), some (.inl (-1))] rfl rfl ?_
  refine ar_ldI rfl rfl ?_
  refine ar_inl (mc := 0) (ms := 0) rfl rfl (Nat.le_of_ble_eq_true rfl) (Nat.le_of_ble_eq_true rfl) (by omega) (by omega) ?_
  refine ac_ink [some (.inl (-1))] mt_216 (Nat.le_of_ble_eq_true rfl) rfl ?_
  refine ar_ldI rfl rfl ?_
  refine ar_tabO rfl (by decide) ?_
  refine ar_push rfl ?_
  refine ar_ret rfl rfl ?_
  show aRun _ (aCall Mt _) _ 9 (_, [_], _, _, _)
  refine ar_if1t rfl (by decide) ?_
  refine ar_ldI rfl rfl ?_
  refine ar_push rfl ?_
  refine ar_if2f rfl (by decide) ?_
  refine ar_ldI rfl rfl ?_
  refine ar_push rfl ?_
  refine ar_if2t rfl (by decide) ?_
  refine ar_ldI rfl rfl ?_
  refine ar_push rfl ?_
  refine ar_if2t rfl (by decide) ?_
  refine ar_ldA rfl rfl ?_
  refine ar_inl (mc := 0) (ms := 0) rfl (rcv_of (hs_ne (by decide) (hs_ne (by decide) (hs_eq (hs_eq (hs_eq (hs_eq (hr.at 69 (by decide) (by decide) rfl)))))))) (Nat.le_of_ble_eq_true rfl) (Nat.le_of_ble_eq_true rfl) (by omega) (by omega) ?_
  refine ac_ink [some (.inr (.inr (some 69))), none, none] mt_218 (Nat.le_of_ble_eq_true rfl) rfl ?_
  refine ar_push rfl ?_
  refine ar_svIk [some (.inr (.inr (some 69))), some (.inl 0), none] rfl rfl ?_
  refine ar_push rfl ?_
  refine ar_svIk [some (.inr (.inr (some 69))), some (.inl 0), some (.inl 0)] rfl rfl ?_
  refine ar_ldI rfl rfl ?_
  refine ar_push rfl ?_
  refine ar_if2f rfl (by decide) ?_
  refine ar_ldA rfl rfl ?_
  refine ar_inl (mc := 0) (ms := 0) rfl (rcv_of (hs_ne (by decide) (hs_ne (by decide) (hs_eq (hs_eq (hs_eq (hs_eq (hr.at 69 (by decide) (by decide) rfl)))))))) (Nat.le_of_ble_eq_true rfl) (Nat.le_of_ble_eq_true rfl) (by omega) (by omega) ?_
  refine ac_ink [some (.inr (.inr (some 69)))] mt_213 (Nat.le_of_ble_eq_true rfl) rfl ?_
  refine ar_ldA rfl rfl ?_
  refine ar_get rfl (hs_ne (by decide) (hs_ne (by decide) (hs_eq (hs_eq (hs_eq (hs_eq (hr.at 69 (by decide) (by decide) rfl))))))) rfl ?_
  refine ar_ldA rfl rfl ?_
  refine ar_get rfl (hs_ne (by decide) (hs_ne (by decide) (hs_eq (hs_eq (hs_eq (hs_eq (hr.at 69 (by decide) (by decide) rfl))))))) rfl ?_
  refine ar_if2t rfl (by decide) ?_
  refine ar_push rfl ?_
  refine ar_ret rfl rfl ?_
  show aRun _ (aCall Mt _) _ 14 (_, [_], _, _, _)
  refine ar_push rfl ?_
  refine ar_push rfl ?_
  refine ar_callv rfl rfl (Nat.le_of_ble_eq_true rfl) (Nat.le_of_ble_eq_true rfl) rfl (sp_in _ _ _ _ _) ?_
  refine ar_if1t rfl (bi_e0t (by decide)) ?_
  refine ar_ldI rfl rfl ?_
  refine ar_if1t rfl (by decide) ?_
  refine ar_ldA rfl rfl ?_
  refine ar_inl (mc := 0) (ms := 0) rfl (rcv_of (hs_ne (by decide) (hs_ne (by decide) (hs_eq (hs_eq (hs_eq (hs_eq (hr.at 69 (by decide) (by decide) rfl)))))))) (Nat.le_of_ble_eq_true rfl) (Nat.le_of_ble_eq_true rfl) (by omega) (by omega) ?_
  refine ac_ink [some (.inr (.inr (some 69)))] mt_214 (Nat.le_of_ble_eq_true rfl) rfl ?_
  refine ar_ldA rfl rfl ?_
  refine ar_get rfl (hs_ne (by decide) (hs_ne (by decide) (hs_eq (hs_eq (hs_eq (hs_eq (hr.at 69 (by decide) (by decide) rfl))))))) rfl ?_
  refine ar_if1f rfl (by decide) ?_
  refine ar_ldA rfl rfl ?_
  refine ar_ldA rfl rfl ?_
  refine ar_get rfl (hs_ne (by decide) (hs_ne (by decide) (hs_eq (hs_eq (hs_eq (hs_eq (hr.at 69 (by decide) (by decide) rfl))))))) rfl ?_
  refine ar_put rfl (hs_ne (by decide) (hs_ne (by decide) (hs_eq (hs_eq (hs_eq (hs_eq (hr.at 69 (by decide) (by decide) rfl))))))) (Nat.le_of_ble_eq_true rfl) rfl ?_
  refine ar_ret0 rfl ?_
  show aRun _ (aCall Mt _) _ 75 (_, [], _, _, _)
  refine ar_ldA rfl rfl ?_
  refine ar_push rfl ?_
  refine ar_ldI rfl rfl ?_
  refine ar_inl (mc := 0) (ms := 0) rfl (rcv_of (hs_eq (hs_ne (by decide) (hs_ne (by decide) (hs_eq (hs_eq (hs_eq (hs_eq (hr.at 69 (by decide) (by decide) rfl))))))))) (Nat.le_of_ble_eq_true rfl) (Nat.le_of_ble_eq_true rfl) (by omega) (by omega) ?_
  refine ac_ink [some (.inr (.inr (some 69))), some (.inl 1), some (.inl 0)] mt_215 (Nat.le_of_ble_eq_true rfl) rfl ?_
  refine ar_ldA rfl rfl ?_
  refine ar_get rfl (hs_eq (hs_ne (by decide) (hs_ne (by decide) (hs_eq (hs_eq (hs_eq (hs_eq (hr.at 69 (by decide) (by decide) rfl)))))))) rfl ?_
  refine ar_push rfl ?_
  refine ar_ldA rfl rfl ?_
  refine ar_get rfl (hs_eq (hs_ne (by decide) (hs_ne (by decide) (hs_eq (hs_eq (hs_eq (hs_eq (hr.at 69 (by decide) (by decide) rfl)))))))) rfl ?_
  refine ar_bink (z := 1430) rfl (by decide) ?_
  refine ar_ldI rfl rfl ?_
  refine ar_un rfl ?_
  refine ar_ast rfl (hs_ne (by decide) (hs_ne (by decide) (hs_ne (by decide) (hs_ne (by decide) (hs_ne (by decide) (hs_ne (by decide) (hs_ne (by decide) (hr.at 83 (by decide) (by decide) rfl)))))))) (by decide) (Nat.le_of_ble_eq_true rfl) ?_
  refine ar_ldA rfl rfl ?_
  refine ar_get rfl (hs_ne (by decide) (hs_eq (hs_ne (by decide) (hs_ne (by decide) (hs_eq (hs_eq (hs_eq (hs_eq (hr.at 69 (by decide) (by decide) rfl))))))))) rfl ?_
  refine ar_push rfl ?_
  refine ar_ldA rfl rfl ?_
  refine ar_get rfl (hs_ne (by decide) (hs_eq (hs_ne (by decide) (hs_ne (by decide) (hs_eq (hs_eq (hs_eq (hs_eq (hr.at 69 (by decide) (by decide) rfl))))))))) rfl ?_
  refine ar_bink (z := 1430) rfl (by decide) ?_
  refine ar_ldI rfl rfl ?_
  refine ar_ast rfl (hs_ne (by decide) (hs_ne (by decide) (hs_ne (by decide) (hs_ne (by decide) (hs_ne (by decide) (hs_ne (by decide) (hs_ne (by decide) (hs_ne (by decide) (hr.at 84 (by decide) (by decide) rfl))))))))) (by decide) (Nat.le_of_ble_eq_true rfl) ?_
  refine ar_ldA rfl rfl ?_
  refine ar_dup rfl rfl ?_
  refine ar_get rfl (hs_ne (by decide) (hs_ne (by decide) (hs_eq (hs_ne (by decide) (hs_ne (by decide) (hs_eq (hs_eq (hs_eq (hs_eq (hr.at 69 (by decide) (by decide) rfl)))))))))) rfl ?_
  refine ar_push rfl ?_
  refine ar_bink (z := 1) rfl (by decide) ?_
  refine ar_put rfl (hs_ne (by decide) (hs_ne (by decide) (hs_eq (hs_ne (by decide) (hs_ne (by decide) (hs_eq (hs_eq (hs_eq (hs_eq (hr.at 69 (by decide) (by decide) rfl)))))))))) (Nat.le_of_ble_eq_true rfl) rfl ?_
  refine ar_ret0 rfl ?_
  show aRun _ (aCall Mt _) _ 81 (_, [], _, _, _)
  refine ar_ret0 rfl ?_
  show aRun _ (aCall Mt _) _ 154 (_, [], _, _, _)
  refine ar_ret0 rfl ?_
  show aRun _ (aCall Mt _) _ 4 (_, [], _, _, _)
  refine ar_ldA rfl rfl ?_
  refine ar_get rfl (hs_eq (hs_ne (by decide) (hs_ne (by decide) (hs_eq (hs_ne (by decide) (hs_ne (by decide) (hs_eq (hs_eq (hs_eq (hs_eq (hr.at 69 (by decide) (by decide) rfl))))))))))) rfl ?_
  refine ar_if1t rfl (by decide) ?_
  refine ar_ret0 rfl ?_
  show aRun _ (aCall Mt _) _ 4 (_, [], _, _, _)
  refine ar_ldA rfl rfl ?_
  refine ar_get rfl (hs_eq (hs_ne (by decide) (hs_ne (by decide) (hs_eq (hs_ne (by decide) (hs_ne (by decide) (hs_eq (hs_eq (hs_eq (hs_eq (hr.at 69 (by decide) (by decide) rfl))))))))))) rfl ?_
  refine ar_if1t rfl (by decide) ?_
  refine ar_ret0 rfl ?_
  show aRun _ (aCall Mt _) _ 4 (_, [], _, _, _)
  refine ar_ldA rfl rfl ?_
  refine ar_inl (mc := 0) (ms := 0) rfl (rcv_of (hs_eq (hs_ne (by decide) (hs_ne (by decide) (hs_eq (hs_ne (by decide) (hs_ne (by decide) (hs_eq (hs_eq (hs_eq (hs_eq (hr.at 69 (by decide) (by decide) rfl)))))))))))) (Nat.le_of_ble_eq_true rfl) (Nat.le_of_ble_eq_true rfl) (by omega) (by omega) ?_
  refine ac_ink [some (.inr (.inr (some 69)))] mt_213 (Nat.le_of_ble_eq_true rfl) rfl ?_
  refine ar_ldA rfl rfl ?_
  refine ar_get rfl (hs_eq (hs_ne (by decide) (hs_ne (by decide) (hs_eq (hs_ne (by decide) (hs_ne (by decide) (hs_eq (hs_eq (hs_eq (hs_eq (hr.at 69 (by decide) (by decide) rfl))))))))))) rfl ?_
  refine ar_ldA rfl rfl ?_
  refine ar_get rfl (hs_eq (hs_ne (by decide) (hs_ne (by decide) (hs_eq (hs_ne (by decide) (hs_ne (by decide) (hs_eq (hs_eq (hs_eq (hs_eq (hr.at 69 (by decide) (by decide) rfl))))))))))) rfl ?_
  refine ar_if2t rfl (by decide) ?_
  refine ar_push rfl ?_
  refine ar_ret rfl rfl ?_
  show aRun _ (aCall Mt _) _ 8 (_, [_], _, _, _)
  refine ar_svIk [some (.inr (.inr (some 69))), some (.inl (-1))] rfl rfl ?_
  refine ar_ldA rfl rfl ?_
  refine ar_get rfl (hs_eq (hs_ne (by decide) (hs_ne (by decide) (hs_eq (hs_ne (by decide) (hs_ne (by decide) (hs_eq (hs_eq (hs_eq (hs_eq (hr.at 69 (by decide) (by decide) rfl))))))))))) rfl ?_
  refine ar_if1t rfl (by decide) ?_
  refine ar_ret0 rfl ?_
  show aRun _ (aCall Mt _) _ 4 (_, [], _, _, _)
  refine ar_ldA rfl rfl ?_
  refine ar_get rfl (hs_eq (hs_ne (by decide) (hs_ne (by decide) (hs_eq (hs_ne (by decide) (hs_ne (by decide) (hs_eq (hs_eq (hs_eq (hs_eq (hr.at 69 (by decide) (by decide) rfl))))))))))) rfl ?_
  refine ar_if1t rfl (by decide) ?_
  refine ar_ret0 rfl ?_
  show aRun _ (aCall Mt _) _ 4 (_, [], _, _, _)
  refine ar_ldA rfl rfl ?_
  refine ar_get rfl (hs_eq (hs_ne (by decide) (hs_ne (by decide) (hs_eq (hs_ne (by decide) (hs_ne (by decide) (hs_eq (hs_eq (hs_eq (hs_eq (hr.at 69 (by decide) (by decide) rfl))))))))))) rfl ?_
  refine ar_if1t rfl (by decide) ?_
  refine ar_ret0 rfl ?_
  show aRun _ (aCall Mt _) _ 27 (_, [], _, _, _)
  refine ar_ldA rfl rfl ?_
  refine ar_get rfl (hs_eq (hs_ne (by decide) (hs_ne (by decide) (hs_eq (hs_ne (by decide) (hs_ne (by decide) (hs_eq (hs_eq (hs_eq (hs_eq (hr.at 69 (by decide) (by decide) rfl))))))))))) rfl ?_
  refine ar_if1t rfl (by decide) ?_
  refine ar_ldA rfl rfl ?_
  refine ar_get rfl (hs_eq (hs_ne (by decide) (hs_ne (by decide) (hs_eq (hs_ne (by decide) (hs_ne (by decide) (hs_eq (hs_eq (hs_eq (hs_eq (hr.at 69 (by decide) (by decide) rfl))))))))))) rfl ?_
  refine ar_ldI rfl rfl ?_
  refine ar_ldA rfl rfl ?_
  refine ar_get rfl (hs_eq (hs_ne (by decide) (hs_ne (by decide) (hs_eq (hs_ne (by decide) (hs_ne (by decide) (hs_eq (hs_eq (hs_eq (hs_eq (hr.at 69 (by decide) (by decide) rfl))))))))))) rfl ?_
  refine ar_un rfl ?_
  refine ar_ast rfl (hs_ne (by decide) (hs_ne (by decide) (hs_ne (by decide) (hs_ne (by decide) (hs_ne (by decide) (hs_ne (by decide) (hs_ne (by decide) (hs_ne (by decide) (hs_ne (by decide) (hs_ne (by decide) (hr.at 87 (by decide) (by decide) rfl))))))))))) (by decide) (Nat.le_of_ble_eq_true rfl) ?_
  refine ar_ldA rfl rfl ?_
  refine ar_get rfl (hs_ne (by decide) (hs_eq (hs_ne (by decide) (hs_ne (by decide) (hs_eq (hs_ne (by decide) (hs_ne (by decide) (hs_eq (hs_eq (hs_eq (hs_eq (hr.at 69 (by decide) (by decide) rfl)))))))))))) rfl ?_
  refine ar_push rfl ?_
  refine ar_dup2 rfl rfl rfl ?_
  refine ar_ald rfl (hs_ne (by decide) (hs_ne (by decide) (hs_ne (by decide) (hs_ne (by decide) (hs_ne (by decide) (hs_ne (by decide) (hs_eq (hs_ne (by decide) (hs_ne (by decide) (hs_ne (by decide) (hs_ne (by decide) (hr.at 85 (by decide) (by decide) rfl)))))))))))) (by decide) rfl ?_
  refine ar_push rfl ?_
  refine ar_bink (z := 1) rfl (by decide) ?_
  refine ar_ast rfl (hs_ne (by decide) (hs_ne (by decide) (hs_ne (by decide) (hs_ne (by decide) (hs_ne (by decide) (hs_ne (by decide) (hs_eq (hs_ne (by decide) (hs_ne (by decide) (hs_ne (by decide) (hs_ne (by decide) (hr.at 85 (by decide) (by decide) rfl)))))))))))) (by decide) (Nat.le_of_ble_eq_true rfl) ?_
  refine ar_ret0 rfl ?_
  show aRun _ (aCall Mt _) _ 54 (_, [], _, _, _)
  refine ar_ldA rfl rfl ?_
  refine ar_get rfl (hs_ne (by decide) (hs_ne (by decide) (hs_eq (hs_ne (by decide) (hs_ne (by decide) (hs_eq (hs_ne (by decide) (hs_ne (by decide) (hs_eq (hs_eq (hs_eq (hs_eq (hr.at 69 (by decide) (by decide) rfl))))))))))))) rfl ?_
  refine ar_if1t rfl (by decide) ?_
  refine ar_ldA rfl rfl ?_
  refine ar_get rfl (hs_ne (by decide) (hs_ne (by decide) (hs_eq (hs_ne (by decide) (hs_ne (by decide) (hs_eq (hs_ne (by decide) (hs_ne (by decide) (hs_eq (hs_eq (hs_eq (hs_eq (hr.at 69 (by decide) (by decide) rfl))))))))))))) rfl ?_
  refine ar_if1t rfl (by decide) ?_
  refine ar_ldA rfl rfl ?_
  refine ar_push rfl ?_
  refine ar_put rfl (hs_ne (by decide) (hs_ne (by decide) (hs_eq (hs_ne (by decide) (hs_ne (by decide) (hs_eq (hs_ne (by decide) (hs_ne (by decide) (hs_eq (hs_eq (hs_eq (hs_eq (hr.at 69 (by decide) (by decide) rfl))))))))))))) (Nat.le_of_ble_eq_true rfl) rfl ?_
  refine ar_ldA rfl rfl ?_
  refine ar_get rfl (hs_eq (hs_ne (by decide) (hs_ne (by decide) (hs_eq (hs_ne (by decide) (hs_ne (by decide) (hs_eq (hs_ne (by decide) (hs_ne (by decide) (hs_eq (hs_eq (hs_eq (hs_eq (hr.at 69 (by decide) (by decide) rfl)))))))))))))) rfl ?_
  refine ar_if1f rfl (by decide) ?_
  refine ar_push rfl ?_
  refine ar_ldA rfl rfl ?_
  refine ar_get rfl (hs_eq (hs_ne (by decide) (hs_ne (by decide) (hs_eq (hs_ne (by decide) (hs_ne (by decide) (hs_eq (hs_ne (by decide) (hs_ne (by decide) (hs_eq (hs_eq (hs_eq (hs_eq (hr.at 69 (by decide) (by decide) rfl)))))))))))))) rfl ?_
  refine ar_bink (z := (-100)) rfl (by decide) ?_
  refine ar_ret rfl rfl ?_
  exact ⟨rfl, hJ _ _ _⟩
set_option maxRecDepth 20000 in
set_option maxHeartbeats 4000000 in
theorem p1_7 (x1 : Int32) (J : aH → Nat → Nat → Prop) (hJ : ∀ h a b, J h a b) (kc ks : Nat) (hkc : 1000 ≤ kc) (hks : 100000 ≤ ks) : aPairI 0 69 131 227 [.inl x1] J hF kc ks := by
  cases hA : wi x1 0 1 with
  | true =>
    have w := wi_to hA
    have l : ((0) : Int32).toInt = 0 := by decide
    have r : ((1) : Int32).toInt = 1 := by decide
    rcases (show x1.toInt = 0 ∨ x1.toInt = 1 by omega) with n | n
    · cases en_of n (show ((0) : Int32).toInt = 0 by decide)
      exact p1_7_0 J hJ kc ks hkc hks
    · cases en_of n (show ((1) : Int32).toInt = 1 by decide)
      exact p1_7_1 J hJ kc ks hkc hks
  | false =>
    cases hB : wi x1 10 18 with
    | true =>
      have w := wi_to hB
      have l : ((10) : Int32).toInt = 10 := by decide
      have r : ((18) : Int32).toInt = 18 := by decide
      rcases (show x1.toInt = 10 ∨ x1.toInt = 11 ∨ x1.toInt = 12 ∨ x1.toInt = 13 ∨ x1.toInt = 14 ∨ x1.toInt = 15 ∨ x1.toInt = 16 ∨ x1.toInt = 17 ∨ x1.toInt = 18 by omega) with n | n | n | n | n | n | n | n | n
      · cases en_of n (show ((10) : Int32).toInt = 10 by decide)
        exact p1_7_10 J hJ kc ks hkc hks
      · cases en_of n (show ((11) : Int32).toInt = 11 by decide)
        exact p1_7_11 J hJ kc ks hkc hks
      · cases en_of n (show ((12) : Int32).toInt = 12 by decide)
        exact p1_7_12 J hJ kc ks hkc hks
      · cases en_of n (show ((13) : Int32).toInt = 13 by decide)
        exact p1_7_13 J hJ kc ks hkc hks
      · cases en_of n (show ((14) : Int32).toInt = 14 by decide)
        exact p1_7_14 J hJ kc ks hkc hks
      · cases en_of n (show ((15) : Int32).toInt = 15 by decide)
        exact p1_7_15 J hJ kc ks hkc hks
      · cases en_of n (show ((16) : Int32).toInt = 16 by decide)
        exact p1_7_16 J hJ kc ks hkc hks
      · cases en_of n (show ((17) : Int32).toInt = 17 by decide)
        exact p1_7_17 J hJ kc ks hkc hks
      · cases en_of n (show ((18) : Int32).toInt = 18 by decide)
        exact p1_7_18 J hJ kc ks hkc hks
    | false =>
      have hw := txt_no hB
      have e0 : decide (x1 = 0) = false := by
        cases q : decide (x1 = 0) with
        | false => rfl
        | true => cases of_decide_eq_true q; exact absurd hA (by decide)
      have e1 : decide (x1 = 1) = false := by
        cases q : decide (x1 = 1) with
        | false => rfl
        | true => cases of_decide_eq_true q; exact absurd hA (by decide)
      refine ⟨0, 0, _, by omega, by omega, rfl, ?_⟩
      refine ac_ink [some (.inr (.inr (some 0))), some (.inl _), none, none] mt_131 (Nat.le_of_ble_eq_true rfl) rfl ?_
      refine ar_ldA rfl rfl ?_
      refine ar_ldI rfl rfl ?_
      refine ar_inl (mc := 0) (ms := 0) rfl (rcv_of rfl) (Nat.le_of_ble_eq_true rfl) (Nat.le_of_ble_eq_true rfl) (by omega) (by omega) ?_
      refine ac_ink [some (.inr (.inr (some 0))), some (.inl _)] mt_166 (Nat.le_of_ble_eq_true rfl) rfl ?_
      refine ar_ldI rfl rfl ?_
      refine ar_if1t rfl (eq_f e0) ?_
      refine ar_ldI rfl rfl ?_
      refine ar_push rfl ?_
      refine ar_if2t rfl (eq_f e1) ?_
      refine ar_ldA rfl rfl ?_
      refine ar_get rfl rfl rfl ?_
      refine ar_ldI rfl rfl ?_
      refine ar_push rfl ?_
      refine ar_bin rfl ?_
      refine ar_inl (mc := 0) (ms := 0) rfl (rcv_of rfl) (Nat.le_of_ble_eq_true rfl) (Nat.le_of_ble_eq_true rfl) (by omega) (by omega) ?_
      refine ac_ink [some (.inr (.inr (some 15))), some (.inl _)] mt_7 (Nat.le_of_ble_eq_true rfl) rfl ?_
      refine ar_ldI rfl rfl ?_
      refine ar_inl (mc := 0) (ms := 0) rfl rfl (Nat.le_of_ble_eq_true rfl) (Nat.le_of_ble_eq_true rfl) (by omega) (by omega) ?_
      refine ac_ink [some (.inl _)] mt_175 (Nat.le_of_ble_eq_true rfl) rfl ?_
      refine ar_ldI rfl rfl ?_
      refine ar_push rfl ?_
      refine ar_push rfl ?_
      refine ar_callv rfl rfl (Nat.le_of_ble_eq_true rfl) (Nat.le_of_ble_eq_true rfl) rfl (sp_within _ _ _ _ _) ?_
      refine ar_ret rfl (bi_ret _) ?_
      show aRun _ (aCall Mt _) _ 4 (_, [_], _, _, _)
      refine ar_if1t rfl (bi_e0t hw) ?_
      refine ar_push rfl ?_
      refine ar_ret rfl rfl ?_
      show aRun _ (aCall Mt _) _ 36 (_, [_], _, _, _)
      refine ar_ret rfl rfl ?_
      show aRun _ (aCall Mt _) _ 5 (_, [_], _, _, _)
      refine ar_svAk [some (.inr (.inr (some 0))), some (.inl _), some (.inr (.inr none)), none] rfl rfl ?_
      refine ar_ldA rfl rfl ?_
      refine ar_nulN rfl ?_
      refine ar_push rfl ?_
      refine ar_ret rfl rfl ?_
      refine ⟨_, 0, 0, _, rfl, Nat.zero_le _, Nat.zero_le _, rfl, ?_⟩
      refine rgen rFr_F (fun g hr => ?_)
      refine ac_ink [some (.inr (.inr (some 69))), some (.inl _), none, none] mt_227 (Nat.le_of_ble_eq_true rfl) rfl ?_
      refine ar_ldI rfl rfl ?_
      refine ar_push rfl ?_
      refine ar_push rfl ?_
      refine ar_callv rfl rfl (Nat.le_of_ble_eq_true rfl) (Nat.le_of_ble_eq_true rfl) rfl (sp_in _ _ _ _ _) ?_
      refine ar_if1f rfl (bi_n0f hA) ?_
      refine ar_ldI rfl rfl ?_
      refine ar_push rfl ?_
      refine ar_push rfl ?_
      refine ar_callv rfl rfl (Nat.le_of_ble_eq_true rfl) (Nat.le_of_ble_eq_true rfl) rfl (sp_in _ _ _ _ _) ?_
      refine ar_if1f rfl (bi_n0f hB) ?_
      refine ar_push rfl ?_
      refine ar_ret rfl rfl ?_
      exact ⟨rfl, hJ _ _ _⟩
end P1T
