/-! EVERY CALL KEEPS THE INVARIANT -/
section PHOP
def pInv : Nat → aH → Nat → Nat → Prop := gInv (rs1 hF) (rs2 hF) 600000 (sz hF + 7290165)
theorem gInv.mono {R1 R2 : Int} {K S j j2 : Nat} {h : aH} {kc ks : Nat} (hj : j ≤ j2) (hI : gInv R1 R2 K S j h kc ks) : gInv R1 R2 K S j2 h kc ks := by
  obtain ⟨n, h1, h2⟩ := hI
  exact ⟨n, by omega, h2⟩
theorem hK_F : rs1 hF + 22 * 130 ≤ (600000 : Nat) := by rw [rs1_F]; decide
theorem hS_F : rs2 hF + 18350 * 130 ≤ ((sz hF + 7290165 : Nat) : Int) := by
  have h : rs2 hF ≤ (sz hF : Int) + 1000000 := by decide +kernel
  omega
theorem pI0 : pInv 0 hF 599886 7290165 := ⟨0, by decide, GH_F, by decide +kernel, rfl⟩
theorem p_hop {L : Nat} (hL : L ≤ 384) (xs : Nat → Int32) (j : Nat) (h : aH) (kc ks : Nat) (hI : pInv j h kc ks) (hj : j + 6 ≤ L) (k : Nat) (_ : (xs j &&& 63).toInt = (k : Int)) : aOpK xs j (pInv (j + 6)) h kc ks k := by
  have h6 : j + 6 ≤ 384 := by omega
  match k with
  | 0 => exact bo_0 hK_F hS_F h6 hI _ _
  | 1 => exact bo_1 hK_F hS_F h6 hI _ _ _ _
  | 2 => exact bo_2 hK_F hS_F h6 hI _ _
  | 3 => exact bo_3 hK_F hS_F h6 hI _ _ _
  | 4 => exact bo_4 hK_F hS_F h6 hI _ _ _ _
  | 5 => exact bo_5 hK_F hS_F h6 hI _ _ _
  | 6 => exact bo_6 hK_F hS_F h6 hI _ _
  | 7 => exact bo_7 hK_F hS_F h6 hI _
  | 8 => exact bo_8 hK_F hS_F h6 hI _ _ _
  | 9 => exact bo_9 hK_F hS_F h6 hI _ _ _
  | 10 => exact bo_10 hK_F hS_F h6 hI _ _ _
  | 11 => exact bo_11 hK_F hS_F h6 hI _ _ _
  | 12 => exact bo_12 hK_F hS_F h6 hI _ _ _ _
  | 13 => exact bo_13 hK_F hS_F h6 hI _ _
  | 14 => exact bo_14 hK_F hS_F h6 hI _ _ _
  | 15 => exact bo_15 hK_F hS_F h6 hI _ _ _
  | 16 => exact bo_16 hK_F hS_F h6 hI _ _ _
  | 17 => exact bo_17 hK_F hS_F h6 hI _ _
  | 18 => exact bo_18 hK_F hS_F h6 hI _ _
  | 19 => exact bo_19 hK_F hS_F h6 hI _ _
  | 20 => exact bo_20 hK_F hS_F h6 hI _
  | 21 => exact bo_21 hK_F hS_F h6 hI _
  | 22 => exact bo_22 hK_F hS_F h6 hI _
  | 23 => exact bo_23 hK_F hS_F h6 hI _ _
  | 24 => exact bo_24 hK_F hS_F h6 hI _ _ _
  | 25 => exact bo_25 hK_F hS_F h6 hI
  | 26 => exact bo_26 hK_F hS_F h6 hI _ _ _
  | 27 => exact bo_27 hK_F hS_F h6 hI _ _ _
  | 28 => exact bo_28 hK_F hS_F h6 hI _ _ _ _
  | 29 => exact bo_29 hK_F hS_F h6 hI _ _ _
  | 30 => exact bo_30 hK_F hS_F h6 hI _ _
  | 31 => exact bo_31 hK_F hS_F h6 hI _
  | 32 => exact bo_32 hK_F hS_F h6 hI _ _ _
  | 33 => exact bo_33 hK_F hS_F h6 hI _ _ _
  | 34 => exact bo_34 hK_F hS_F h6 hI _
  | 35 => exact bo_35 hK_F hS_F h6 hI _ _
  | 36 => exact bo_36 hK_F hS_F h6 hI _ _ _
  | 37 => exact bo_37 hK_F hS_F h6 hI _ _ _
  | 38 => exact bo_38 hK_F hS_F h6 hI _ _
  | 39 => exact bo_39 hK_F hS_F h6 hI _ _ _ _ _
  | 40 => exact bo_40 hK_F hS_F h6 hI _ _
  | 41 => exact bo_41 hK_F hS_F h6 hI _
  | k + 42 => exact gInv.mono (Nat.le_add_right _ _) hI
end PHOP
