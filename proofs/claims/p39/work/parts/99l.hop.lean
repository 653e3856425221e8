/-! EVERY CALL KEEPS THE INVARIANT -/
section PHOP
def pInv : Nat → aH → Nat → Nat → Prop := gInvT (rs1 hF) (rs2 hF) 600000 (sz hF + 7290165)
theorem gInvT.mono {R1 R2 : Int} {K S j j2 : Nat} {h : aH} {kc ks : Nat} (hj : j ≤ j2) (hI : gInvT R1 R2 K S j h kc ks) : gInvT R1 R2 K S j2 h kc ks := by
  obtain ⟨n, h1, h2⟩ := hI
  exact ⟨n, by omega, h2⟩
theorem hK_F : rs1 hF + 22 * 130 ≤ (600000 : Nat) := by rw [rs1_F]; decide
theorem hS_F : rs2 hF + 18350 * 130 ≤ ((sz hF + 7290165 : Nat) : Int) := by
  have h : rs2 hF ≤ (sz hF : Int) + 1000000 := by decide +kernel
  omega
theorem pI0 : pInv 0 hF 599886 7290165 := ⟨0, by decide, GH_F, TP_F, by decide +kernel, rfl⟩
theorem anyI {ci ri : Nat} {vs : List aV} {J : aH → Nat → Nat → Prop} {h : aH} {kc ks : Nat} (q : aBoth (fun x => ∃ u : Int32, x = .inl u) (fun x y => ∃ u : Int32, x = .inl u ∧ y = .inl u) ci ri vs J h kc ks) : aBoth (fun x => ∃ u : Int32, x = .inl u) (fun x y => (∃ u : Int32, x = .inl u) ∧ ∃ u : Int32, y = .inl u) ci ri vs J h kc ks :=
  q.weak (fun _ p => p) (fun x y p => by obtain ⟨u, e1, e2⟩ := p; exact ⟨⟨u, e1⟩, u, e2⟩)
theorem anyJ {ci ri : Nat} {vs : List aV} {J : aH → Nat → Nat → Prop} {h : aH} {kc ks : Nat} (q : aBoth (fun x => ∃ u : Int64, x = .inr (.inl u)) (fun x y => ∃ u : Int64, x = .inr (.inl u) ∧ y = .inr (.inl u)) ci ri vs J h kc ks) : aBoth (fun x => ∃ u : Int64, x = .inr (.inl u)) (fun x y => (∃ u : Int64, x = .inr (.inl u)) ∧ ∃ u : Int64, y = .inr (.inl u)) ci ri vs J h kc ks :=
  q.weak (fun _ p => p) (fun x y p => by obtain ⟨u, e1, e2⟩ := p; exact ⟨⟨u, e1⟩, u, e2⟩)
theorem p_hop {L : Nat} (hL : L ≤ 384) (xs : Nat → Int32) (j : Nat) (h : aH) (kc ks : Nat) (hI : pInv j h kc ks) (hj : j + 6 ≤ L) (k : Nat) (_ : (xs j &&& 63).toInt = (k : Int)) : aOpK xs j (pInv (j + 6)) h kc ks k := by
  have h6 : j + 6 ≤ 384 := by omega
  match k with
  | 0 => exact anyI (bt_0 hK_F hS_F h6 hI _ _)
  | 1 => exact bt_1 hK_F hS_F h6 hI _ _ _ _
  | 2 => exact bt_2 hK_F hS_F h6 hI _ _
  | 3 => exact bt_3 hK_F hS_F h6 hI _ _ _
  | 4 => exact bt_4 hK_F hS_F h6 hI _ _ _ _
  | 5 => exact bt_5 hK_F hS_F h6 hI _ _ _
  | 6 => exact anyI (bt_6 hK_F hS_F h6 hI _ _)
  | 7 => exact bt_7 hK_F hS_F h6 hI _
  | 8 => exact anyI (bt_8 hK_F hS_F h6 hI _ _ _)
  | 9 => exact anyI (bt_9 hK_F hS_F h6 hI _ _ _)
  | 10 => exact anyI (bt_10 hK_F hS_F h6 hI _ _ _)
  | 11 => exact anyI (bt_11 hK_F hS_F h6 hI _ _ _)
  | 12 => exact anyI (bt_12 hK_F hS_F h6 hI _ _ _ _)
  | 13 => exact bt_13 hK_F hS_F h6 hI _ _
  | 14 => exact bt_14 hK_F hS_F h6 hI _ _ _
  | 15 => exact bt_15 hK_F hS_F h6 hI _ _ _
  | 16 => exact bt_16 hK_F hS_F h6 hI _ _ _
  | 17 => exact bt_17 hK_F hS_F h6 hI _ _
  | 18 => exact bt_18 hK_F hS_F h6 hI _ _
  | 19 => exact bt_19 hK_F hS_F h6 hI _ _
  | 20 => exact bt_20 hK_F hS_F h6 hI _
  | 21 => exact bt_21 hK_F hS_F h6 hI _
  | 22 => exact bt_22 hK_F hS_F h6 hI _
  | 23 => exact anyI (bt_23 hK_F hS_F h6 hI _ _)
  | 24 => exact bt_24 hK_F hS_F h6 hI _ _ _
  | 25 => exact anyI (bt_25 hK_F hS_F h6 hI)
  | 26 => exact bt_26 hK_F hS_F h6 hI _ _ _
  | 27 => exact bt_27 hK_F hS_F h6 hI _ _ _
  | 28 => exact bt_28 hK_F hS_F h6 hI _ _ _ _
  | 29 => exact bt_29 hK_F hS_F h6 hI _ _ _
  | 30 => exact bt_30 hK_F hS_F h6 hI _ _
  | 31 => exact bt_31 hK_F hS_F h6 hI _
  | 32 => exact bt_32 hK_F hS_F h6 hI _ _ _
  | 33 => exact bt_33 hK_F hS_F h6 hI _ _ _
  | 34 => exact bt_34 hK_F hS_F h6 hI _
  | 35 => exact anyI (bt_35 hK_F hS_F h6 hI _ _)
  | 36 => exact anyI (bt_36 hK_F hS_F h6 hI _ _ _)
  | 37 => exact bt_37 hK_F hS_F h6 hI _ _ _
  | 38 => exact anyJ (bt_38 hK_F hS_F h6 hI _ _)
  | 39 => exact anyI (bt_39 hK_F hS_F h6 hI _ _ _ _ _)
  | 40 => exact bt_40 hK_F hS_F h6 hI _ _
  | 41 => exact bt_41 hK_F hS_F h6 hI _
  | k + 42 => exact gInvT.mono (Nat.le_add_right _ _) hI
end PHOP
