/-! APART, printed by program but for its head -/
section APT
def apP (n a : Int) : Prop := (0 ≤ n → (n % 360 ≤ 180 → a = n % 360) ∧ (180 < n % 360 → a = 360 - n % 360)) ∧ (n < 0 → ((-n) % 360 ≤ 180 → a = (-n) % 360) ∧ (180 < (-n) % 360 → a = 360 - (-n) % 360))
theorem apP_c {n n' a : Int} (e : n = n') (h : apP n a) : apP n' a := e ▸ h
theorem apP_r {n a : Int} (hn : -359 ≤ n ∧ n ≤ 359) (h : apP n a) : (0 ≤ n ∧ (n ≤ 180 ∧ a = n ∨ 180 < n ∧ a = 360 - n)) ∨ (n < 0 ∧ (-180 ≤ n ∧ a = -n ∨ n < -180 ∧ a = 360 + n)) := by
  obtain ⟨h1, h2⟩ := h
  by_cases q : 0 ≤ n
  · obtain ⟨a1, a2⟩ := h1 q
    have e : n % 360 = n := Int.emod_eq_of_lt q (by omega)
    rw [e] at a1 a2
    refine Or.inl ⟨q, ?_⟩
    by_cases k : n ≤ 180
    · exact Or.inl ⟨k, a1 k⟩
    · exact Or.inr ⟨by omega, a2 (by omega)⟩
  · obtain ⟨a1, a2⟩ := h2 (by omega)
    have e : (-n) % 360 = -n := Int.emod_eq_of_lt (by omega) (by omega)
    rw [e] at a1 a2
    refine Or.inr ⟨by omega, ?_⟩
    by_cases k : -180 ≤ n
    · exact Or.inl ⟨k, a1 (by omega)⟩
    · have := a2 (by omega)
      exact Or.inr ⟨by omega, by omega⟩
set_option maxRecDepth 20000 in
set_option maxHeartbeats 4000000 in
theorem sd_X11_apart {d kc ks : Nat} {h0 : aH} {Q : Option aV → aH → Prop} (hO0 : OK h0) (a0 : Int32) (b0 : -100000 ≤ a0.toInt ∧ a0.toInt ≤ 100000) (a1 : Int32) (b1 : -100000 ≤ a1.toInt ∧ a1.toInt ≤ 100000) (hQ : ∀ r, (∃ x : Int32, r = some (.inl x) ∧ (apP (a0.toInt - a1.toInt) x.toInt)) → Q r h0) : uCall Mt (d + 1) 179 [(.inl a0), (.inl a1)] h0 kc ks Q := by
  have l_360 : ((360) : Int32).toInt = 360 := by decide
  refine uc_ink [some (.inl a0), some (.inl a1), none] mt_179 (Nat.le_of_ble_eq_true rfl) rfl ?_
  refine ur_ldI rfl rfl ?_
  refine ur_ldI rfl rfl ?_
  refine ur_binV rfl (fun x1 e2 => ?_)
  have z3 := any_r a0
  have z4 := any_r a1
  have t5 := ti_sub e2 (by omega) (by omega)
  refine ur_absV rfl (by show ¬ 9 ≤ 1; decide) (fun x6 t7 e8 => ?_)
  have t9 := t7 (by omega)
  refine ur_push rfl ?_
  refine ur_divV rfl (by decide) (fun x10 e11 => ?_)
  have z12 := any_r x6
  have t13 := ti_rem e11 l_360 (by decide) (by omega)
  refine ur_svIk [some (.inl a0), some (.inl a1), some (.inl x10)] rfl rfl ?_
  refine ur_ldI rfl rfl ?_
  refine ur_push rfl ?_
  refine ur_ldI rfl rfl ?_
  refine ur_binV rfl (fun x14 e15 => ?_)
  have z16 := any_r x10
  have t17 := ti_sub e15 (by omega) (by omega)
  refine ur_minV rfl (by show ¬ 9 ≤ 2; decide) (fun x18 t19 e20 => ?_)
  exact ur_ret rfl rfl (hQ _ ⟨_, rfl, (by unfold apP; omega)⟩ )

set_option maxRecDepth 20000 in
set_option maxHeartbeats 4000000 in
theorem sd_X12_apartOf {d kc ks : Nat} {h0 : aH} {Q : Option aV → aH → Prop} (hO0 : OK h0) (a0 : Int32) (b0 : -100000 ≤ a0.toInt ∧ a0.toInt ≤ 100000) (a1 : Int32) (b1 : -100000 ≤ a1.toInt ∧ a1.toInt ≤ 100000) (hQ : ∀ r, (∃ x : Int32, r = some (.inl x) ∧ (apP (a0.toInt - a1.toInt) x.toInt)) → Q r h0) : uCall Mt (d + 2) 186 [(.inl a0), (.inl a1)] h0 kc ks Q := by
  have l_180 : ((180) : Int32).toInt = 180 := by decide
  have l_360 : ((360) : Int32).toInt = 360 := by decide
  refine uc_ink [some (.inl a0), some (.inl a1), none] mt_186 (Nat.le_of_ble_eq_true rfl) rfl ?_
  refine ur_ldI rfl rfl ?_
  refine ur_ldI rfl rfl ?_
  refine ur_binV rfl (fun x1 e2 => ?_)
  have z3 := any_r a0
  have z4 := any_r a1
  have t5 := ti_sub e2 (by omega) (by omega)
  refine ur_inl rfl rfl (Nat.le_of_ble_eq_true rfl) (Nat.le_of_ble_eq_true rfl) (sf_X12_sizeOf _ (fun w6 hr7 => ?_))
  obtain ⟨x8, rfl, t9⟩ := hr7
  show uRun _ (uCall Mt _) _ 6 (_, [(.inl x8)], _, _, _)
  refine ur_push rfl ?_
  refine ur_divV rfl (by decide) (fun x10 e11 => ?_)
  have z12 := any_r x8
  have t13 : 0 ≤ x8.toInt → x10.toInt = x8.toInt % 360 := fun q => ti_rem e11 l_360 (by decide) q
  refine ur_svIk [some (.inl a0), some (.inl a1), some (.inl x10)] rfl rfl ?_
  refine ur_ldI rfl rfl ?_
  refine ur_push rfl ?_
  refine ur_if2 rfl (fun c14 => ?_) (fun c14 => ?_)
  · have t15 := le_to c14
    refine ur_ldI rfl rfl ?_
    exact ur_ret rfl rfl (hQ _ ⟨_, rfl, (by unfold apP; omega)⟩ )
  · have t16 := le_no c14
    refine ur_push rfl ?_
    refine ur_ldI rfl rfl ?_
    refine ur_binV rfl (fun x17 e18 => ?_)
    have z19 := any_r x10
    have t20 := ti_sub e18 (by omega) (by omega)
    refine ur_go rfl ?_
    exact ur_ret rfl rfl (hQ _ ⟨_, rfl, (by unfold apP; omega)⟩ )
end APT
