/-! THE FIRST CALL, all kinds -/
section P1H
def p1Inv (j : Nat) (h : aH) (kc ks : Nat) : Prop := j = 0 → h = hF ∧ kc = 599886 ∧ ks = 7290165
theorem p1_hop {L : Nat} (hL : L ≤ 6) (xs : Nat → Int32) (j : Nat) (h : aH) (kc ks : Nat) (hI : p1Inv j h kc ks) (hj : j + 6 ≤ L) (k : Nat) (hk : (xs j &&& 63).toInt = (k : Int)) : aOpK xs j 0 69 (p1Inv (j + 6)) h kc ks k := by
  have j0 : j = 0 := by omega
  subst j0
  obtain ⟨rfl, rfl, rfl⟩ := hI rfl
  have hJ : ∀ h a b, p1Inv (0 + 6) h a b := fun _ _ _ e => absurd e (by decide)
  match k with
  | 0 => exact p1_0 _ _ _ hJ _ _ (Nat.le_of_ble_eq_true rfl) (Nat.le_of_ble_eq_true rfl)
  | 1 => exact p1_1 _ _ _ _ _ hJ _ _ (Nat.le_of_ble_eq_true rfl) (Nat.le_of_ble_eq_true rfl)
  | 2 => exact p1_2 _ _ _ hJ _ _ (Nat.le_of_ble_eq_true rfl) (Nat.le_of_ble_eq_true rfl)
  | 3 => exact p1_3 _ _ _ _ hJ _ _ (Nat.le_of_ble_eq_true rfl) (Nat.le_of_ble_eq_true rfl)
  | 4 => exact p1_4 _ _ _ _ _ hJ _ _ (Nat.le_of_ble_eq_true rfl) (Nat.le_of_ble_eq_true rfl)
  | 5 => exact p1_5 _ _ _ _ hJ _ _ (Nat.le_of_ble_eq_true rfl) (Nat.le_of_ble_eq_true rfl)
  | 6 => exact p1_6 _ _ _ hJ _ _ (Nat.le_of_ble_eq_true rfl) (Nat.le_of_ble_eq_true rfl)
  | 7 => exact p1_7 _ _ hJ _ _ (Nat.le_of_ble_eq_true rfl) (Nat.le_of_ble_eq_true rfl)
  | 8 => exact p1_8 _ _ _ _ hJ _ _ (Nat.le_of_ble_eq_true rfl) (Nat.le_of_ble_eq_true rfl)
  | 9 => exact p1_9 _ _ _ _ hJ _ _ (Nat.le_of_ble_eq_true rfl) (Nat.le_of_ble_eq_true rfl)
  | 10 => exact p1_10 _ _ _ _ hJ _ _ (Nat.le_of_ble_eq_true rfl) (Nat.le_of_ble_eq_true rfl)
  | 11 => exact p1_11 _ _ _ _ hJ _ _ (Nat.le_of_ble_eq_true rfl) (Nat.le_of_ble_eq_true rfl)
  | 12 => exact p1_12 _ _ _ _ _ hJ _ _ (Nat.le_of_ble_eq_true rfl) (Nat.le_of_ble_eq_true rfl)
  | 13 => exact p1_13 _ _ _ hJ _ _ (Nat.le_of_ble_eq_true rfl) (Nat.le_of_ble_eq_true rfl)
  | 14 => exact p1_14 _ _ _ _ hJ _ _ (Nat.le_of_ble_eq_true rfl) (Nat.le_of_ble_eq_true rfl)
  | 15 => exact p1_15 _ _ _ _ hJ _ _ (Nat.le_of_ble_eq_true rfl) (Nat.le_of_ble_eq_true rfl)
  | 16 => exact p1_16 _ _ _ _ hJ _ _ (Nat.le_of_ble_eq_true rfl) (Nat.le_of_ble_eq_true rfl)
  | 17 => exact p1_17 _ _ _ hJ _ _ (Nat.le_of_ble_eq_true rfl) (Nat.le_of_ble_eq_true rfl)
  | 18 => exact p1_18 _ _ _ hJ _ _ (Nat.le_of_ble_eq_true rfl) (Nat.le_of_ble_eq_true rfl)
  | 19 => exact p1_19 _ _ _ hJ _ _ (Nat.le_of_ble_eq_true rfl) (Nat.le_of_ble_eq_true rfl)
  | 20 => exact p1_20 _ _ hJ _ _ (Nat.le_of_ble_eq_true rfl) (Nat.le_of_ble_eq_true rfl)
  | 21 => exact p1_21 _ _ hJ _ _ (Nat.le_of_ble_eq_true rfl) (Nat.le_of_ble_eq_true rfl)
  | 22 => exact p1_22 _ _ hJ _ _ (Nat.le_of_ble_eq_true rfl) (Nat.le_of_ble_eq_true rfl)
  | 23 => exact p1_23 _ _ _ hJ _ _ (Nat.le_of_ble_eq_true rfl) (Nat.le_of_ble_eq_true rfl)
  | 24 => exact p1_24 _ _ _ _ hJ _ _ (Nat.le_of_ble_eq_true rfl) (Nat.le_of_ble_eq_true rfl)
  | 25 => exact p1_25 _ hJ _ _ (Nat.le_of_ble_eq_true rfl) (Nat.le_of_ble_eq_true rfl)
  | 26 => exact p1_26 _ _ _ _ hJ _ _ (Nat.le_of_ble_eq_true rfl) (Nat.le_of_ble_eq_true rfl)
  | 27 => exact p1_27 _ _ _ _ hJ _ _ (Nat.le_of_ble_eq_true rfl) (Nat.le_of_ble_eq_true rfl)
  | 28 => exact p1_28 _ _ _ _ _ hJ _ _ (Nat.le_of_ble_eq_true rfl) (Nat.le_of_ble_eq_true rfl)
  | 29 => exact p1_29 _ _ _ _ hJ _ _ (Nat.le_of_ble_eq_true rfl) (Nat.le_of_ble_eq_true rfl)
  | 30 => exact p1_30 _ _ _ hJ _ _ (Nat.le_of_ble_eq_true rfl) (Nat.le_of_ble_eq_true rfl)
  | 31 => exact p1_31 _ _ hJ _ _ (Nat.le_of_ble_eq_true rfl) (Nat.le_of_ble_eq_true rfl)
  | 32 => exact p1_32 _ _ _ _ hJ _ _ (Nat.le_of_ble_eq_true rfl) (Nat.le_of_ble_eq_true rfl)
  | 33 => exact p1_33 _ _ _ _ hJ _ _ (Nat.le_of_ble_eq_true rfl) (Nat.le_of_ble_eq_true rfl)
  | 34 => exact p1_34 _ _ hJ _ _ (Nat.le_of_ble_eq_true rfl) (Nat.le_of_ble_eq_true rfl)
  | 35 => exact p1_35 _ _ _ hJ _ _ (Nat.le_of_ble_eq_true rfl) (Nat.le_of_ble_eq_true rfl)
  | 36 => exact p1_36 _ _ _ _ hJ _ _ (Nat.le_of_ble_eq_true rfl) (Nat.le_of_ble_eq_true rfl)
  | 37 => exact p1_37 _ _ _ _ hJ _ _ (Nat.le_of_ble_eq_true rfl) (Nat.le_of_ble_eq_true rfl)
  | 38 => exact p1_38 _ _ _ hJ _ _ (Nat.le_of_ble_eq_true rfl) (Nat.le_of_ble_eq_true rfl)
  | 39 => exact p1_39 _ _ _ _ _ _ hJ _ _ (Nat.le_of_ble_eq_true rfl) (Nat.le_of_ble_eq_true rfl)
  | 40 => exact p1_40 _ _ _ hJ _ _ (Nat.le_of_ble_eq_true rfl) (Nat.le_of_ble_eq_true rfl)
  | 41 => exact p1_41 _ _ hJ _ _ (Nat.le_of_ble_eq_true rfl) (Nat.le_of_ble_eq_true rfl)
  | k + 42 => exact hJ _ _ _
end P1H
