/-! SMALL exact answers -/
section SMA
variable {d : Nat}
theorem sp_isRet (k : Int32) (h : aH) : uCall Mt (d + 2) 177 [.inl k] h 0 0 (fun r h' => r = some (.inl (bi (wi k (-60) 60))) ∧ h' = h) := by
  refine uc_ink [some (.inl k)] mt_177 (Nat.le_of_ble_eq_true rfl) rfl ?_
  refine ur_ldI rfl rfl ?_
  refine ur_push rfl ?_
  refine ur_push rfl ?_
  refine ur_callv rfl rfl (Nat.le_of_ble_eq_true rfl) (Nat.le_of_ble_eq_true rfl) rfl (sp_within _ _ _ _ _) ?_
  exact ur_ret rfl (bi_ret _) ⟨rfl, rfl⟩
theorem sp_isDay (k : Int32) (h : aH) : uCall Mt (d + 2) 174 [.inl k] h 0 0 (fun r h' => r = some (.inl (bi (wi k 0 999999))) ∧ h' = h) := by
  refine uc_ink [some (.inl k)] mt_174 (Nat.le_of_ble_eq_true rfl) rfl ?_
  refine ur_ldI rfl rfl ?_
  refine ur_push rfl ?_
  refine ur_push rfl ?_
  refine ur_callv rfl rfl (Nat.le_of_ble_eq_true rfl) (Nat.le_of_ble_eq_true rfl) rfl (sp_within _ _ _ _ _) ?_
  exact ur_ret rfl (bi_ret _) ⟨rfl, rfl⟩
theorem sp_isPpl (k : Int32) (h : aH) : uCall Mt (d + 2) 175 [.inl k] h 0 0 (fun r h' => r = some (.inl (bi (wi k 0 8))) ∧ h' = h) := by
  refine uc_ink [some (.inl k)] mt_175 (Nat.le_of_ble_eq_true rfl) rfl ?_
  refine ur_ldI rfl rfl ?_
  refine ur_push rfl ?_
  refine ur_push rfl ?_
  refine ur_callv rfl rfl (Nat.le_of_ble_eq_true rfl) (Nat.le_of_ble_eq_true rfl) rfl (sp_within _ _ _ _ _) ?_
  exact ur_ret rfl (bi_ret _) ⟨rfl, rfl⟩
theorem sp_isDat (k : Int32) (h : aH) : uCall Mt (d + 2) 176 [.inl k] h 0 0 (fun r h' => r = some (.inl (bi (wi k 0 9999))) ∧ h' = h) := by
  refine uc_ink [some (.inl k)] mt_176 (Nat.le_of_ble_eq_true rfl) rfl ?_
  refine ur_ldI rfl rfl ?_
  refine ur_push rfl ?_
  refine ur_push rfl ?_
  refine ur_callv rfl rfl (Nat.le_of_ble_eq_true rfl) (Nat.le_of_ble_eq_true rfl) rfl (sp_within _ _ _ _ _) ?_
  exact ur_ret rfl (bi_ret _) ⟨rfl, rfl⟩
theorem sp_isFar (k : Int32) (h : aH) : uCall Mt (d + 2) 178 [.inl k] h 0 0 (fun r h' => r = some (.inl (bi (!(wi k (-120) 120)))) ∧ h' = h) := by
  refine uc_ink [some (.inl k)] mt_178 (Nat.le_of_ble_eq_true rfl) rfl ?_
  refine ur_ldI rfl rfl ?_
  refine ur_push rfl ?_
  refine ur_push rfl ?_
  refine ur_callv rfl rfl (Nat.le_of_ble_eq_true rfl) (Nat.le_of_ble_eq_true rfl) rfl (sp_within _ _ _ _ _) ?_
  refine ur_neB rfl (fun c => ?_) (fun c => ?_)
  · refine ur_push rfl ?_
    exact ur_ret rfl rfl ⟨by rw [c]; rfl, rfl⟩
  · refine ur_push rfl ?_
    refine ur_go rfl ?_
    exact ur_ret rfl rfl ⟨by rw [c]; rfl, rfl⟩
theorem sp_page (k : Int32) (h : aH) : uCall Mt (d + 2) 31 [.inr (.inr (some 57)), .inl k] h 0 0 (fun r h' => r = some (.inl (bi (wi k 0 5))) ∧ h' = h) := by
  refine uc_ink [some (.inr (.inr (some 57))), some (.inl k)] mt_31 (Nat.le_of_ble_eq_true rfl) rfl ?_
  refine ur_ldI rfl rfl ?_
  refine ur_push rfl ?_
  refine ur_push rfl ?_
  refine ur_callv rfl rfl (Nat.le_of_ble_eq_true rfl) (Nat.le_of_ble_eq_true rfl) rfl (sp_within _ _ _ _ _) ?_
  exact ur_ret rfl (bi_ret _) ⟨rfl, rfl⟩
theorem sq_isRet (k : Int32) (h : aH) : uCall Mt (d + 2) 188 [.inl k] h 0 0 (fun r h' => r = some (.inl (bi (wi k (-60) 60))) ∧ h' = h) := by
  refine uc_ink [some (.inl k)] mt_188 (Nat.le_of_ble_eq_true rfl) rfl ?_
  refine ur_ldI rfl rfl ?_
  refine ur_push rfl ?_
  refine ur_push rfl ?_
  refine ur_callv rfl rfl (Nat.le_of_ble_eq_true rfl) (Nat.le_of_ble_eq_true rfl) rfl (sp_in _ _ _ _ _) ?_
  exact ur_ret rfl (bi_ret _) ⟨rfl, rfl⟩
theorem sq_isDay (k : Int32) (h : aH) : uCall Mt (d + 2) 189 [.inl k] h 0 0 (fun r h' => r = some (.inl (bi (wi k 0 999999))) ∧ h' = h) := by
  refine uc_ink [some (.inl k)] mt_189 (Nat.le_of_ble_eq_true rfl) rfl ?_
  refine ur_ldI rfl rfl ?_
  refine ur_push rfl ?_
  refine ur_push rfl ?_
  refine ur_callv rfl rfl (Nat.le_of_ble_eq_true rfl) (Nat.le_of_ble_eq_true rfl) rfl (sp_in _ _ _ _ _) ?_
  exact ur_ret rfl (bi_ret _) ⟨rfl, rfl⟩
theorem sq_isPpl (k : Int32) (h : aH) : uCall Mt (d + 2) 190 [.inl k] h 0 0 (fun r h' => r = some (.inl (bi (wi k 0 8))) ∧ h' = h) := by
  refine uc_ink [some (.inl k)] mt_190 (Nat.le_of_ble_eq_true rfl) rfl ?_
  refine ur_ldI rfl rfl ?_
  refine ur_push rfl ?_
  refine ur_push rfl ?_
  refine ur_callv rfl rfl (Nat.le_of_ble_eq_true rfl) (Nat.le_of_ble_eq_true rfl) rfl (sp_in _ _ _ _ _) ?_
  exact ur_ret rfl (bi_ret _) ⟨rfl, rfl⟩
theorem sq_isShf (k : Int32) (h : aH) : uCall Mt (d + 2) 296 [.inl k] h 0 0 (fun r h' => r = some (.inl (bi (wi k 0 5))) ∧ h' = h) := by
  refine uc_ink [some (.inl k)] mt_296 (Nat.le_of_ble_eq_true rfl) rfl ?_
  refine ur_ldI rfl rfl ?_
  refine ur_push rfl ?_
  refine ur_push rfl ?_
  refine ur_callv rfl rfl (Nat.le_of_ble_eq_true rfl) (Nat.le_of_ble_eq_true rfl) rfl (sp_in _ _ _ _ _) ?_
  exact ur_ret rfl (bi_ret _) ⟨rfl, rfl⟩
theorem sf_X6_allGreats {kc ks : Nat} {h0 : aH} {Q : Option aV → aH → Prop} (hO0 : OK h0) (hQ : ∀ r, (∃ x : Int32, r = some (.inl x) ∧ 0 ≤ x.toInt ∧ x.toInt ≤ 15) → Q r h0) : uCall Mt (d + 1) 61 [.inr (.inr (some 1))] h0 kc ks Q := by
  refine uc_ink [some (.inr (.inr (some 1)))] mt_61 (Nat.le_of_ble_eq_true rfl) rfl ?_
  refine ur_push rfl ?_
  refine ur_ldA rfl rfl ?_
  obtain ⟨gg, nn, hc, hk⟩ := ok_1 hO0
  refine ur_get rfl hc rfl ?_
  rcases (show gg.toInt = 0 ∨ gg.toInt = 1 ∨ gg.toInt = 2 ∨ gg.toInt = 3 ∨ gg.toInt = 4 by omega) with t | t | t | t | t
  · have e : gg = 0 := en_of t (by decide)
    rw [e]
    refine ur_bink (z := 1) rfl (by decide) ?_
    refine ur_push rfl ?_
    refine ur_bink (z := 0) rfl (by decide) ?_
    exact ur_ret rfl rfl (hQ _ ⟨_, rfl, by decide, by decide⟩)
  · have e : gg = 1 := en_of t (by decide)
    rw [e]
    refine ur_bink (z := 2) rfl (by decide) ?_
    refine ur_push rfl ?_
    refine ur_bink (z := 1) rfl (by decide) ?_
    exact ur_ret rfl rfl (hQ _ ⟨_, rfl, by decide, by decide⟩)
  · have e : gg = 2 := en_of t (by decide)
    rw [e]
    refine ur_bink (z := 4) rfl (by decide) ?_
    refine ur_push rfl ?_
    refine ur_bink (z := 3) rfl (by decide) ?_
    exact ur_ret rfl rfl (hQ _ ⟨_, rfl, by decide, by decide⟩)
  · have e : gg = 3 := en_of t (by decide)
    rw [e]
    refine ur_bink (z := 8) rfl (by decide) ?_
    refine ur_push rfl ?_
    refine ur_bink (z := 7) rfl (by decide) ?_
    exact ur_ret rfl rfl (hQ _ ⟨_, rfl, by decide, by decide⟩)
  · have e : gg = 4 := en_of t (by decide)
    rw [e]
    refine ur_bink (z := 16) rfl (by decide) ?_
    refine ur_push rfl ?_
    refine ur_bink (z := 15) rfl (by decide) ?_
    exact ur_ret rfl rfl (hQ _ ⟨_, rfl, by decide, by decide⟩)
theorem sf_X12_allGreats {kc ks : Nat} {h0 : aH} {Q : Option aV → aH → Prop} (hO0 : OK h0) (hQ : ∀ r, (∃ x : Int32, r = some (.inl x) ∧ 0 ≤ x.toInt ∧ x.toInt ≤ 15) → Q r h0) : uCall Mt (d + 1) 197 [.inr (.inr (some 69))] h0 kc ks Q := by
  refine uc_ink [some (.inr (.inr (some 69)))] mt_197 (Nat.le_of_ble_eq_true rfl) rfl ?_
  refine ur_push rfl ?_
  refine ur_ldA rfl rfl ?_
  obtain ⟨_, gg, _, _, _, _, _, _, _, _, _, _, _, _, _, _, _, _, _, _, _, _, _, _, _, hc, hk⟩ := ok_69 hO0
  refine ur_get rfl hc rfl ?_
  rcases (show gg.toInt = 0 ∨ gg.toInt = 1 ∨ gg.toInt = 2 ∨ gg.toInt = 3 ∨ gg.toInt = 4 by omega) with t | t | t | t | t
  · have e : gg = 0 := en_of t (by decide)
    rw [e]
    refine ur_bink (z := 1) rfl (by decide) ?_
    refine ur_push rfl ?_
    refine ur_bink (z := 0) rfl (by decide) ?_
    exact ur_ret rfl rfl (hQ _ ⟨_, rfl, by decide, by decide⟩)
  · have e : gg = 1 := en_of t (by decide)
    rw [e]
    refine ur_bink (z := 2) rfl (by decide) ?_
    refine ur_push rfl ?_
    refine ur_bink (z := 1) rfl (by decide) ?_
    exact ur_ret rfl rfl (hQ _ ⟨_, rfl, by decide, by decide⟩)
  · have e : gg = 2 := en_of t (by decide)
    rw [e]
    refine ur_bink (z := 4) rfl (by decide) ?_
    refine ur_push rfl ?_
    refine ur_bink (z := 3) rfl (by decide) ?_
    exact ur_ret rfl rfl (hQ _ ⟨_, rfl, by decide, by decide⟩)
  · have e : gg = 3 := en_of t (by decide)
    rw [e]
    refine ur_bink (z := 8) rfl (by decide) ?_
    refine ur_push rfl ?_
    refine ur_bink (z := 7) rfl (by decide) ?_
    exact ur_ret rfl rfl (hQ _ ⟨_, rfl, by decide, by decide⟩)
  · have e : gg = 4 := en_of t (by decide)
    rw [e]
    refine ur_bink (z := 16) rfl (by decide) ?_
    refine ur_push rfl ?_
    refine ur_bink (z := 15) rfl (by decide) ?_
    exact ur_ret rfl rfl (hQ _ ⟨_, rfl, by decide, by decide⟩)
end SMA
