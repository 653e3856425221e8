/-! THE ANSWERS of date, printed by program -/
section DAT
set_option maxRecDepth 20000 in
set_option maxHeartbeats 4000000 in
theorem sd_X11_date {d kc ks : Nat} {h0 : aH} {Q : Option aV → aH → Prop} (hO0 : OK h0) (a1 : Int32) (a2 : Int32) (a3 : Int32) (hQ : ∀ r h', (∃ x : Int32, r = some (.inl x) ∧ (x.toInt = 1 ∧ (0 ≤ a1.toInt ∧ a1.toInt ≤ 9999) ∧ (0 ≤ a2.toInt ∧ a2.toInt ≤ 9999) ∧ (0 ≤ a3.toInt ∧ a3.toInt ≤ 9999) ∨ x.toInt = -1 ∧ ¬ ((0 ≤ a1.toInt ∧ a1.toInt ≤ 9999) ∧ (0 ≤ a2.toInt ∧ a2.toInt ≤ 9999) ∧ (0 ≤ a3.toInt ∧ a3.toInt ≤ 9999)))) → OK h' → un [2502, 2503, 2504] h0 h' → Q r h') : uCall Mt (d + 3) 135 [(.inr (.inr (some 0))), (.inl a1), (.inl a2), (.inl a3)] h0 kc ks Q := by
  have l_m1 : ((-1) : Int32).toInt = -1 := by decide
  have l_0 : ((0) : Int32).toInt = 0 := by decide
  have l_1 : ((1) : Int32).toInt = 1 := by decide
  have l_9999 : ((9999) : Int32).toInt = 9999 := by decide
  refine uc_ink [some (.inr (.inr (some 0))), some (.inl a1), some (.inl a2), some (.inl a3)] mt_135 (Nat.le_of_ble_eq_true rfl) rfl ?_
  refine ur_ldI rfl rfl ?_
  refine ur_callv rfl rfl (Nat.le_of_ble_eq_true rfl) (Nat.le_of_ble_eq_true rfl) rfl (sp_isDat _ _) ?_
  refine ur_eqB rfl (fun c3 => ?_) (fun c3 => ?_)
  · have t4 := wi_noL c3 l_0 l_9999
    refine ur_push rfl ?_
    exact ur_ret rfl rfl (hQ _ _ ⟨_, rfl, by omega⟩ hO0 un.rf)
  · have t5 := wi_toL c3 l_0 l_9999
    refine ur_ldI rfl rfl ?_
    refine ur_callv rfl rfl (Nat.le_of_ble_eq_true rfl) (Nat.le_of_ble_eq_true rfl) rfl (sp_isDat _ _) ?_
    refine ur_eqB rfl (fun c8 => ?_) (fun c8 => ?_)
    · have t9 := wi_noL c8 l_0 l_9999
      refine ur_push rfl ?_
      exact ur_ret rfl rfl (hQ _ _ ⟨_, rfl, by omega⟩ hO0 un.rf)
    · have t10 := wi_toL c8 l_0 l_9999
      refine ur_ldI rfl rfl ?_
      refine ur_callv rfl rfl (Nat.le_of_ble_eq_true rfl) (Nat.le_of_ble_eq_true rfl) rfl (sp_isDat _ _) ?_
      refine ur_neB rfl (fun c13 => ?_) (fun c13 => ?_)
      · have t14 := wi_toL c13 l_0 l_9999
        refine ur_ldA rfl rfl ?_
        obtain ⟨hc15, k16⟩ := ok_0 hO0
        refine ur_get rfl hc15 rfl ?_
        refine ur_ldI rfl rfl ?_
        obtain ⟨f18, f19, f20, f21, hc17, k22⟩ := ok_15 hO0
        refine ur_putV (W := [2502, 2503, 2504]) (fs' := [(.inr (.inr (some 16))), (.inl f18), (.inl a1), (.inl f20), (.inl f21), (.inr (.inr (some 17))), (.inr (.inr (some 18))), (.inr (.inr (some 19))), (.inr (.inr (some 20))), (.inr (.inr (some 21))), (.inr (.inr (some 22)))]) rfl hO0 hc17 (Nat.le_of_ble_eq_true rfl) rfl rfl ⟨rfl, _, _, _, _, rfl, by omega⟩ rfl (Or.inr (by show 1000 + 100 * wid 15 (101, 11) + 2 ∈ _; rw [(wid_f (by decide))]; decide)) (fun h24 hO24 hu24 d23 hc25 => ?_)
        refine ur_ldA rfl rfl ?_
        refine ur_get rfl ((d23 _ (by decide)).trans hc15) rfl ?_
        refine ur_ldI rfl rfl ?_
        refine ur_putV (W := [2502, 2503, 2504]) (fs' := [(.inr (.inr (some 16))), (.inl f18), (.inl a1), (.inl a2), (.inl f21), (.inr (.inr (some 17))), (.inr (.inr (some 18))), (.inr (.inr (some 19))), (.inr (.inr (some 20))), (.inr (.inr (some 21))), (.inr (.inr (some 22)))]) rfl hO24 hc25 (Nat.le_of_ble_eq_true rfl) rfl rfl ⟨rfl, _, _, _, _, rfl, by omega⟩ rfl (Or.inr (by show 1000 + 100 * wid 15 (101, 11) + 3 ∈ _; rw [(wid_f (by decide))]; decide)) (fun h27 hO27 hu27 d26 hc28 => ?_)
        refine ur_ldA rfl rfl ?_
        refine ur_get rfl ((d26 _ (by decide)).trans ((d23 _ (by decide)).trans hc15)) rfl ?_
        refine ur_ldI rfl rfl ?_
        refine ur_putV (W := [2502, 2503, 2504]) (fs' := [(.inr (.inr (some 16))), (.inl f18), (.inl a1), (.inl a2), (.inl a3), (.inr (.inr (some 17))), (.inr (.inr (some 18))), (.inr (.inr (some 19))), (.inr (.inr (some 20))), (.inr (.inr (some 21))), (.inr (.inr (some 22)))]) rfl hO27 hc28 (Nat.le_of_ble_eq_true rfl) rfl rfl ⟨rfl, _, _, _, _, rfl, by omega⟩ rfl (Or.inr (by show 1000 + 100 * wid 15 (101, 11) + 4 ∈ _; rw [(wid_f (by decide))]; decide)) (fun h30 hO30 hu30 d29 hc31 => ?_)
        refine ur_push rfl ?_
        exact ur_ret rfl rfl (hQ _ _ ⟨_, rfl, by omega⟩ hO30 (hu24.tr (hu27.tr hu30)))
      · have t32 := wi_noL c13 l_0 l_9999
        refine ur_push rfl ?_
        exact ur_ret rfl rfl (hQ _ _ ⟨_, rfl, by omega⟩ hO0 un.rf)

set_option maxRecDepth 20000 in
set_option maxHeartbeats 4000000 in
theorem sd_X12_date {d kc ks : Nat} {h0 : aH} {Q : Option aV → aH → Prop} (hO0 : OK h0) (a1 : Int32) (a2 : Int32) (a3 : Int32) (hQ : ∀ r h', (∃ x : Int32, r = some (.inl x) ∧ (x.toInt = 1 ∧ (0 ≤ a1.toInt ∧ a1.toInt ≤ 9999) ∧ (0 ≤ a2.toInt ∧ a2.toInt ≤ 9999) ∧ (0 ≤ a3.toInt ∧ a3.toInt ≤ 9999) ∨ x.toInt = -1 ∧ ¬ ((0 ≤ a1.toInt ∧ a1.toInt ≤ 9999) ∧ (0 ≤ a2.toInt ∧ a2.toInt ≤ 9999) ∧ (0 ≤ a3.toInt ∧ a3.toInt ≤ 9999)))) → OK h' → un [7947, 7948, 7949] h0 h' → Q r h') : uCall Mt (d + 2) 237 [(.inr (.inr (some 69))), (.inl a1), (.inl a2), (.inl a3)] h0 kc ks Q := by
  have l_m1 : ((-1) : Int32).toInt = -1 := by decide
  have l_0 : ((0) : Int32).toInt = 0 := by decide
  have l_1 : ((1) : Int32).toInt = 1 := by decide
  have l_9999 : ((9999) : Int32).toInt = 9999 := by decide
  refine uc_ink [some (.inr (.inr (some 69))), some (.inl a1), some (.inl a2), some (.inl a3)] mt_237 (Nat.le_of_ble_eq_true rfl) rfl ?_
  refine ur_ldI rfl rfl ?_
  refine ur_push rfl ?_
  refine ur_push rfl ?_
  refine ur_callv rfl rfl (Nat.le_of_ble_eq_true rfl) (Nat.le_of_ble_eq_true rfl) rfl (sp_in _ _ _ _ _) ?_
  refine ur_eqB rfl (fun c3 => ?_) (fun c3 => ?_)
  · have t4 := wi_noL c3 l_0 l_9999
    refine ur_push rfl ?_
    exact ur_ret rfl rfl (hQ _ _ ⟨_, rfl, by omega⟩ hO0 un.rf)
  · have t5 := wi_toL c3 l_0 l_9999
    refine ur_ldI rfl rfl ?_
    refine ur_push rfl ?_
    refine ur_push rfl ?_
    refine ur_callv rfl rfl (Nat.le_of_ble_eq_true rfl) (Nat.le_of_ble_eq_true rfl) rfl (sp_in _ _ _ _ _) ?_
    refine ur_eqB rfl (fun c8 => ?_) (fun c8 => ?_)
    · have t9 := wi_noL c8 l_0 l_9999
      refine ur_push rfl ?_
      exact ur_ret rfl rfl (hQ _ _ ⟨_, rfl, by omega⟩ hO0 un.rf)
    · have t10 := wi_toL c8 l_0 l_9999
      refine ur_ldI rfl rfl ?_
      refine ur_push rfl ?_
      refine ur_push rfl ?_
      refine ur_callv rfl rfl (Nat.le_of_ble_eq_true rfl) (Nat.le_of_ble_eq_true rfl) rfl (sp_in _ _ _ _ _) ?_
      refine ur_neB rfl (fun c13 => ?_) (fun c13 => ?_)
      · have t14 := wi_toL c13 l_0 l_9999
        refine ur_ldA rfl rfl ?_
        refine ur_ldI rfl rfl ?_
        obtain ⟨fs15, hc16⟩ := hO0.mod
        obtain ⟨f17, p18⟩ := mf_47 hO0 hc16
        refine ur_putM (W := [7947, 7948, 7949]) rfl hO0 hc16 (by decide) rfl (ms_47 (hO0.msh hc16)) (Or.inr (by decide)) (fun h20 hO20 hu20 d19 hc21 => ?_)
        refine ur_ldA rfl rfl ?_
        refine ur_ldI rfl rfl ?_
        obtain ⟨f22, p23⟩ := mf_48 hO20 hc21
        refine ur_putM (W := [7947, 7948, 7949]) rfl hO20 hc21 (by decide) rfl (ms_48 (hO20.msh hc21)) (Or.inr (by decide)) (fun h25 hO25 hu25 d24 hc26 => ?_)
        refine ur_ldA rfl rfl ?_
        refine ur_ldI rfl rfl ?_
        obtain ⟨f27, p28⟩ := mf_49 hO25 hc26
        refine ur_putM (W := [7947, 7948, 7949]) rfl hO25 hc26 (by decide) rfl (ms_49 (hO25.msh hc26)) (Or.inr (by decide)) (fun h30 hO30 hu30 d29 hc31 => ?_)
        refine ur_push rfl ?_
        exact ur_ret rfl rfl (hQ _ _ ⟨_, rfl, by omega⟩ hO30 (hu20.tr (hu25.tr hu30)))
      · have t32 := wi_noL c13 l_0 l_9999
        refine ur_push rfl ?_
        exact ur_ret rfl rfl (hQ _ _ ⟨_, rfl, by omega⟩ hO0 un.rf)
end DAT
