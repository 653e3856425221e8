section P1J
set_option maxRecDepth 20000 in
set_option maxHeartbeats 4000000 in
theorem p1_27 (x1 x2 x3 : Int32) (J : aH → Nat → Nat → Prop) (hJ : ∀ h a b, J h a b) (kc ks : Nat) (hkc : 1000 ≤ kc) (hks : 100000 ≤ ks) : aPairI 0 69 151 273 [.inl x1, .inl x2, .inl x3] J hF kc ks := by
  cases hA : wi x1 0 180 with
  | false =>
    refine ⟨0, 0, _, by omega, by omega, rfl, ?_⟩
    refine ac_ink [some (.inr (.inr (some 0))), some (.inl _), some (.inl _), some (.inl _)] mt_151 (Nat.le_of_ble_eq_true rfl) rfl ?_
    refine ar_ldI rfl rfl ?_
    refine ar_push rfl ?_
    refine ar_push rfl ?_
    refine ar_callv rfl rfl (Nat.le_of_ble_eq_true rfl) (Nat.le_of_ble_eq_true rfl) rfl (sp_within _ _ _ _ _) ?_
    refine ar_if1t rfl (bi_e0t hA) ?_
    refine ar_push rfl ?_
    refine ar_ret rfl rfl ?_
    refine ⟨_, 0, 0, _, rfl, Nat.zero_le _, Nat.zero_le _, rfl, ?_⟩
    refine rgen rFr_F (fun g hr => ?_)
    refine ac_ink [some (.inr (.inr (some 69))), some (.inl _), some (.inl _), some (.inl _), none, none, none, none, none, none] mt_273 (Nat.le_of_ble_eq_true rfl) rfl ?_
    refine ar_ldI rfl rfl ?_
    refine ar_push rfl ?_
    refine ar_push rfl ?_
    refine ar_callv rfl rfl (Nat.le_of_ble_eq_true rfl) (Nat.le_of_ble_eq_true rfl) rfl (sp_in _ _ _ _ _) ?_
    refine ar_if1t rfl (bi_e0t hA) ?_
    refine ar_push rfl ?_
    refine ar_ret rfl rfl ?_
    exact ⟨rfl, hJ _ _ _⟩
  | true =>
    cases hB : wi x3 1 200 with
    | false =>
      refine ⟨0, 0, _, by omega, by omega, rfl, ?_⟩
      refine ac_ink [some (.inr (.inr (some 0))), some (.inl _), some (.inl _), some (.inl _)] mt_151 (Nat.le_of_ble_eq_true rfl) rfl ?_
      refine ar_ldI rfl rfl ?_
      refine ar_push rfl ?_
      refine ar_push rfl ?_
      refine ar_callv rfl rfl (Nat.le_of_ble_eq_true rfl) (Nat.le_of_ble_eq_true rfl) rfl (sp_within _ _ _ _ _) ?_
      refine ar_if1f rfl (bi_e0f hA) ?_
      refine ar_ldI rfl rfl ?_
      refine ar_push rfl ?_
      refine ar_push rfl ?_
      refine ar_callv rfl rfl (Nat.le_of_ble_eq_true rfl) (Nat.le_of_ble_eq_true rfl) rfl (sp_within _ _ _ _ _) ?_
      refine ar_if1f rfl (bi_n0f hB) ?_
      refine ar_push rfl ?_
      refine ar_ret rfl rfl ?_
      refine ⟨_, 0, 0, _, rfl, Nat.zero_le _, Nat.zero_le _, rfl, ?_⟩
      refine rgen rFr_F (fun g hr => ?_)
      refine ac_ink [some (.inr (.inr (some 69))), some (.inl _), some (.inl _), some (.inl _), none, none, none, none, none, none] mt_273 (Nat.le_of_ble_eq_true rfl) rfl ?_
      refine ar_ldI rfl rfl ?_
      refine ar_push rfl ?_
      refine ar_push rfl ?_
      refine ar_callv rfl rfl (Nat.le_of_ble_eq_true rfl) (Nat.le_of_ble_eq_true rfl) rfl (sp_in _ _ _ _ _) ?_
      refine ar_if1f rfl (bi_e0f hA) ?_
      refine ar_ldI rfl rfl ?_
      refine ar_push rfl ?_
      refine ar_push rfl ?_
      refine ar_callv rfl rfl (Nat.le_of_ble_eq_true rfl) (Nat.le_of_ble_eq_true rfl) rfl (sp_in _ _ _ _ _) ?_
      refine ar_if1f rfl (bi_n0f hB) ?_
      refine ar_push rfl ?_
      refine ar_ret rfl rfl ?_
      exact ⟨rfl, hJ _ _ _⟩
    | true =>
      have w := wi_to hB
      have l : ((1) : Int32).toInt = 1 := by decide
      have r : ((200) : Int32).toInt = 200 := by decide
      obtain ⟨N, hN⟩ : ∃ N : Nat, x3.toInt = (N : Int) := ⟨x3.toInt.toNat, by omega⟩
      have e : x3 = nI N := en_of hN (nI_toInt (by omega))
      subst e
      refine ⟨0, 0, _, by omega, by omega, rfl, ?_⟩
      refine ac_ink [some (.inr (.inr (some 0))), some (.inl _), some (.inl _), some (.inl _)] mt_151 (Nat.le_of_ble_eq_true rfl) rfl ?_
      refine ar_ldI rfl rfl ?_
      refine ar_push rfl ?_
      refine ar_push rfl ?_
      refine ar_callv rfl rfl (Nat.le_of_ble_eq_true rfl) (Nat.le_of_ble_eq_true rfl) rfl (sp_within _ _ _ _ _) ?_
      refine ar_if1f rfl (bi_e0f hA) ?_
      refine ar_ldI rfl rfl ?_
      refine ar_push rfl ?_
      refine ar_push rfl ?_
      refine ar_callv rfl rfl (Nat.le_of_ble_eq_true rfl) (Nat.le_of_ble_eq_true rfl) rfl (sp_within _ _ _ _ _) ?_
      refine ar_if1t rfl (bi_n0t hB) ?_
      refine ar_ldI rfl rfl ?_
      refine ar_ldI rfl rfl ?_
      refine ar_ldI rfl rfl ?_
      refine ar_inl (mc := 0) (ms := 0) rfl rfl (Nat.le_of_ble_eq_true rfl) (Nat.le_of_ble_eq_true rfl) (by omega) (by omega) ?_
      refine ac_ink [some (.inl _), some (.inl _), some (.inl _), none, none, none, none, none, none] mt_168 (Nat.le_of_ble_eq_true rfl) rfl ?_
      refine ar_ldI rfl rfl ?_
      refine ar_if1t rfl (decide_eq_true (Int32.not_le.mp (nI_nle (by omega) (by omega)))) ?_
      refine ar_ldI rfl rfl ?_
      refine ar_svIk [_, _, _, some (.inl _), none, none, none, none, none] rfl rfl ?_
      refine ar_push rfl ?_
      refine ar_svIk [_, _, _, _, some (.inl _), none, none, none, none] rfl rfl ?_
      refine ar_push rfl ?_
      refine ar_svIk [_, _, _, _, _, some (.inl (nI 0)), none, none, none] rfl (by rw [nI_0]; rfl) ?_
      refine ch_cls (d := 56) x1 x2 N (by omega) (by omega) N 0 x2 0 none none none (by omega) ?_
      show aRun _ (aCall Mt _) _ 30 (_, [_], _, _, _)
      refine ar_ret rfl rfl ?_
      refine ⟨_, 0, 0, _, rfl, Nat.zero_le _, Nat.zero_le _, rfl, ?_⟩
      refine ac_ink [some (.inr (.inr (some 69))), some (.inl _), some (.inl _), some (.inl _), none, none, none, none, none, none] mt_273 (Nat.le_of_ble_eq_true rfl) rfl ?_
      refine ar_ldI rfl rfl ?_
      refine ar_push rfl ?_
      refine ar_push rfl ?_
      refine ar_callv rfl rfl (Nat.le_of_ble_eq_true rfl) (Nat.le_of_ble_eq_true rfl) rfl (sp_in _ _ _ _ _) ?_
      refine ar_if1f rfl (bi_e0f hA) ?_
      refine ar_ldI rfl rfl ?_
      refine ar_push rfl ?_
      refine ar_push rfl ?_
      refine ar_callv rfl rfl (Nat.le_of_ble_eq_true rfl) (Nat.le_of_ble_eq_true rfl) rfl (sp_in _ _ _ _ _) ?_
      refine ar_if1t rfl (bi_n0t hB) ?_
      refine ar_ldA rfl rfl ?_
      refine ar_ldI rfl rfl ?_
      have hc : ∃ fs : List aV, hF[69]? = some (.inl (12, fs)) ∧ fs[60]? = some (.inl 0) := ⟨_, rfl, rfl⟩
      obtain ⟨fs, f1, f2⟩ := hc
      refine ar_put rfl f1 (List.getElem?_eq_some_iff.mp f2).1 rfl ?_
      refine ar_push rfl ?_
      refine ar_svIk [_, _, _, _, some (.inl _), none, none, none, none, none] rfl rfl ?_
      refine ar_push rfl ?_
      refine ar_svIk [_, _, _, _, _, some (.inl (nI 0)), none, none, none, none] rfl (by rw [nI_0]; rfl) ?_
      exact ch_ref (d := 57) x1 x2 N (by omega) (by omega) (fun _ => Or.inr trivial) N 0 x2 0 none none none none _ (drw.set f1 f2) (by omega) (fun h' => ⟨rfl, hJ _ _ _⟩)
end P1J
