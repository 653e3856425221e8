/-! SIGHT, its leaves; printed by program but for its head -/
section SGT
def trn0 (w e q : Int) : Int := Int.tdiv (w * 90 * e) ((e.natAbs : Int) + q)
noncomputable def trn : Int → Int → Int → Int := Classical.choose (⟨trn0, rfl⟩ : ∃ f, f = trn0)
theorem trn_eq (w e q : Int) : trn w e q = trn0 w e q := by
  have h : trn = trn0 := Classical.choose_spec (⟨trn0, rfl⟩ : ∃ f, f = trn0)
  rw [h]
theorem trn_b {w e q : Int} (hw : w = 1 ∨ w = -1) (hq : 1 ≤ q) : -90 ≤ trn w e q ∧ trn w e q ≤ 90 := by
  rw [trn_eq]
  unfold trn0
  have h1 : w * 90 * e ≤ 90 * (e.natAbs : Int) ∧ -(w * 90 * e) ≤ 90 * (e.natAbs : Int) := by
    rcases hw with rfl | rfl <;> omega
  generalize w * 90 * e = n at *
  have hd0 : 0 < (e.natAbs : Int) + q := by omega
  have hd1 : (e.natAbs : Int) ≤ (e.natAbs : Int) + q := by omega
  generalize (e.natAbs : Int) + q = d at *
  have key : ∀ m : Int, 0 ≤ m → m ≤ 90 * d → 0 ≤ Int.tdiv m d ∧ Int.tdiv m d ≤ 90 := fun m m0 m1 => by
    rw [Int.tdiv_eq_ediv_of_nonneg m0]
    exact ⟨Int.ediv_nonneg m0 (by omega), Int.ediv_le_of_le_mul hd0 (by omega)⟩
  by_cases q0 : 0 ≤ n
  · have := key n q0 (by omega)
    omega
  · have := key (-n) (by omega) (by omega)
    rw [Int.neg_tdiv] at this
    omega
theorem trn_z {w e q x1 x2 dv z : Int32} (hw : w.toInt = 1 ∨ w.toInt = -1) (e1 : w * 90 = x1) (e2 : x1 * e = x2) (e3 : x2 / dv = z) (he : -1000000 ≤ e.toInt ∧ e.toInt ≤ 1000000) (hd : dv.toInt = (e.toInt.natAbs : Int) + q.toInt) (hq : 1 ≤ q.toInt) : z.toInt = trn w.toInt e.toInt q.toInt ∧ -90 ≤ z.toInt ∧ z.toInt ≤ 90 := by
  have hb := trn_b (e := e.toInt) (q := q.toInt) hw hq
  have m1 : x1.toInt = w.toInt * 90 := ti_mulL e1 (by decide) (by omega) (by omega)
  have m2 : x2.toInt = w.toInt * 90 * e.toInt := by
    rcases hw with h | h
    · rw [h] at m1 ⊢
      have := ti_mulR e2 m1 (by omega) (by omega)
      omega
    · rw [h] at m1 ⊢
      have := ti_mulR e2 m1 (by omega) (by omega)
      omega
  have k : z.toInt = trn w.toInt e.toInt q.toInt := by
    rw [← e3, Int32.toInt_div, m2, hd, show Int.tdiv (w.toInt * 90 * e.toInt) ((e.toInt.natAbs : Int) + q.toInt) = trn w.toInt e.toInt q.toInt from (trn_eq _ _ _).symm]
    generalize trn w.toInt e.toInt q.toInt = t at *
    unfold Int.bmod
    simp only []
    split <;> omega
  exact ⟨k, by omega, by omega⟩
def apP (n a : Int) : Prop := (0 ≤ n → (n % 360 ≤ 180 → a = n % 360) ∧ (180 < n % 360 → a = 360 - n % 360)) ∧ (n < 0 → ((-n) % 360 ≤ 180 → a = (-n) % 360) ∧ (180 < (-n) % 360 → a = 360 - (-n) % 360))
theorem apP_r {n a : Int} (hn : -359 ≤ n ∧ n ≤ 359) (h : apP n a) : (0 ≤ n ∧ (n ≤ 180 ∧ a = n ∨ 180 < n ∧ a = 360 - n)) ∨ (n < 0 ∧ (-180 ≤ n ∧ a = -n ∨ n < -180 ∧ a = 360 + n)) := by
  obtain ⟨h1, h2⟩ := h
  by_cases q : 0 ≤ n
  · obtain ⟨a1, a2⟩ := h1 q
    have e : n % 360 = n := Int.emod_eq_of_lt q (by omega)
    rw [e] at a1 a2
    refine Or.inl ⟨q, ?_⟩
    by_cases k : n ≤ 180
    · exact Or.inl ⟨k, a1 k⟩
    · exact Or.inr ⟨by omega, a2 (by omega)⟩
  · obtain ⟨a1, a2⟩ := h2 (by omega)
    have e : (-n) % 360 = -n := Int.emod_eq_of_lt (by omega) (by omega)
    rw [e] at a1 a2
    refine Or.inr ⟨by omega, ?_⟩
    by_cases k : -180 ≤ n
    · exact Or.inl ⟨k, a1 (by omega)⟩
    · have := a2 (by omega)
      exact Or.inr ⟨by omega, by omega⟩
def apF (n : Int) : Int := if n < 0 then (if n < -180 then 360 + n else -n) else (if n ≤ 180 then n else 360 - n)
theorem apF_s {n : Int} (hn : -359 ≤ n ∧ n ≤ 359) : (0 ≤ n ∧ n ≤ 180 ∧ apF n = n) ∨ (180 < n ∧ apF n = 360 - n) ∨ (n < 0 ∧ -180 ≤ n ∧ apF n = -n) ∨ (n < -180 ∧ apF n = 360 + n) := by
  unfold apF
  split
  · split <;> omega
  · split <;> omega
theorem apF_of {n a : Int} (hn : -359 ≤ n ∧ n ≤ 359) (h : apP n a) : a = apF n := by
  have q := apP_r hn h
  have r := apF_s hn
  omega
noncomputable def dgF (nd w q e : Int) : Int := (nd + trn w e q + 360) % 360
theorem dgF_r {nd w q e : Int} : 0 ≤ dgF nd w q e ∧ dgF nd w q e ≤ 359 := by
  unfold dgF
  generalize nd + trn w e q + 360 = n
  omega
def azI (e : Int) : Int := if e < 0 then -e else e
def wsF (g day : Int) : Prop := (g - day % 360 + 360) % 360 < 180
def ofF (g l : Int) : Int := if (g - 15 * l + 360) % 360 < 15 then 0 else if (g - 15 * l + 360) % 360 - 14 ≤ 360 - (g - 15 * l + 360) % 360 then (g - 15 * l + 360) % 360 - 14 else 360 - (g - 15 * l + 360) % 360
/-- the least of how far the degrees from f up to d are off g -/
def LOi (g f d x : Int) : Prop := (d = f ∧ x = 360) ∨ ((∃ k, f ≤ k ∧ k < d ∧ x = apF (k - g)) ∧ ∀ k, f ≤ k → k < d → x ≤ apF (k - g))
theorem LOi.z {g f d x : Int} (e : d = f) (ex : x = 360) : LOi g f d x := Or.inl ⟨e, ex⟩
theorem LOi.n {g f d d' x a : Int} (H : LOi g f d x) (ha : a = apF (d - g)) (c : x ≤ a ∧ x ≠ 360) (e : d' = d + 1) : LOi g f d' x := by
  subst e
  rcases H with ⟨-, q⟩ | ⟨⟨k, k0, k1, k2⟩, H⟩
  · exact absurd q c.2
  · refine Or.inr ⟨⟨k, k0, by omega, k2⟩, fun j j0 j1 => ?_⟩
    by_cases q : j = d
    · subst q
      omega
    · exact H j j0 (by omega)
theorem LOi.y {g f d d' x y : Int} (H : LOi g f d x) (ha : y = apF (d - g)) (c : y ≤ x ∧ f ≤ d) (e : d' = d + 1) : LOi g f d' y := by
  subst e
  refine Or.inr ⟨⟨d, c.2, by omega, ha⟩, fun j j0 j1 => ?_⟩
  by_cases q : j = d
  · subst q
    omega
  · rcases H with ⟨q2, -⟩ | ⟨-, H⟩
    · omega
    · have := H j j0 (by omega)
      omega
theorem LOi.e {g l f d x : Int} (H : LOi g f d x) (hl : 0 ≤ l ∧ l ≤ 23) (hg : 0 ≤ g ∧ g ≤ 359) (e : f = 15 * l ∧ d = f + 15) : x = ofF g l := by
  obtain ⟨rfl, rfl⟩ := e
  rcases H with ⟨q, -⟩ | ⟨⟨k, k0, k1, k2⟩, H⟩
  · omega
  · have a := apF_s (n := k - g) (by omega)
    have h0 := H (15 * l) (by omega) (by omega)
    have h1 := H (15 * l + 14) (by omega) (by omega)
    have b0 := apF_s (n := 15 * l - g) (by omega)
    have b1 := apF_s (n := 15 * l + 14 - g) (by omega)
    unfold ofF
    by_cases q : (g - 15 * l + 360) % 360 < 15
    · rw [if_pos q]
      have h2 := H g (by omega) (by omega)
      have b2 := apF_s (n := g - g) (by omega)
      omega
    · rw [if_neg q]
      clear H
      by_cases r : g < 15 * l
      · have e : (g - 15 * l + 360) % 360 = g - 15 * l + 360 := by omega
        rw [e]
        by_cases t : g - 15 * l + 360 - 14 ≤ 360 - (g - 15 * l + 360)
        · rw [if_pos t]
          omega
        · rw [if_neg t]
          omega
      · have e : (g - 15 * l + 360) % 360 = g - 15 * l := by omega
        rw [e]
        by_cases t : g - 15 * l - 14 ≤ 360 - (g - 15 * l)
        · rw [if_pos t]
          omega
        · rw [if_neg t]
          omega
/-- the array that field k of an object is -/
def rP (h : aH) (z k : Nat) : Nat := match fA h z k with
  | some (Sum.inr (Sum.inr (some q))) => q
  | _ => 0
theorem rP_of {h : aH} {z k q : Nat} (e : fA h z k = some (.inr (.inr (some q)))) : rP h z k = q := by
  unfold rP
  rw [e]
theorem rP_e {h h' : aH} {z k : Nat} (e : fA h' z k = fA h z k) : rP h' z k = rP h z k := by
  unfold rP
  rw [e]
/-- what a comet of the class is, its degrees too -/
def CDz (h : aH) (z : Nat) : Prop := (0 ≤ fO h z 2 ∧ fO h z 2 ≤ 359) ∧ (5 ≤ fO h z 3 ∧ fO h z 3 ≤ 99) ∧ (fO h z 4 = 1 ∨ fO h z 4 = -1) ∧ (0 ≤ fO h z 5 ∧ fO h z 5 ≤ 9) ∧ ∀ e : Int, -120 ≤ e → e ≤ 120 → gI h (rP h z 11) (e + 120) = dgF (fO h z 2) (fO h z 4) (fO h z 3) e
set_option maxRecDepth 20000 in
set_option maxHeartbeats 4000000 in
theorem sd_X11_turned {d kc ks : Nat} {h0 : aH} {Q : Option aV → aH → Prop} (hO0 : OK h0) (a0 : Int32) (b0 : -1 ≤ a0.toInt ∧ a0.toInt ≤ 1) (a1 : Int32) (b1 : -1000000 ≤ a1.toInt ∧ a1.toInt ≤ 1000000) (a2 : Int32) (b2 : 5 ≤ a2.toInt ∧ a2.toInt ≤ 99) (pre0 : a0.toInt = 1 ∨ a0.toInt = -1) (hQ : ∀ r, (∃ x : Int32, r = some (.inl x) ∧ (x.toInt = trn a0.toInt a1.toInt a2.toInt ∧ -90 ≤ x.toInt ∧ x.toInt ≤ 90)) → Q r h0) : uCall Mt (d + 1) 182 [(.inl a0), (.inl a1), (.inl a2)] h0 kc ks Q := by
  have l_0 : ((0) : Int32).toInt = 0 := by decide
  have l_90 : ((90) : Int32).toInt = 90 := by decide
  refine uc_ink [some (.inl a0), some (.inl a1), some (.inl a2), none] mt_182 (Nat.le_of_ble_eq_true rfl) rfl ?_
  refine ur_ldI rfl rfl ?_
  refine ur_absV rfl (by show ¬ 9 ≤ 1; decide) (fun x1 t2 e3 => ?_)
  have t4 := t2 (by omega)
  clear t2
  refine ur_ldI rfl rfl ?_
  refine ur_binV rfl (fun x5 e6 => ?_)
  have z7 := any_r x1
  have z8 := any_r a2
  have t9 := ti_add e6 (by omega) (by omega)
  refine ur_svIk [some (.inl a0), some (.inl a1), some (.inl a2), some (.inl x5)] rfl rfl ?_
  refine ur_ldI rfl rfl ?_
  refine ur_if1 rfl (fun c10 => ?_) (fun c10 => ?_)
  · have t11 := ne_to c10
    refine ur_ldI rfl rfl ?_
    refine ur_push rfl ?_
    refine ur_binV rfl (fun x12 e13 => ?_)
    have z14 := any_r a0
    have t15 := ti_mul1 e13 (by omega) (by omega)
    refine ur_ldI rfl rfl ?_
    refine ur_binV rfl (fun x16 e17 => ?_)
    have z18 := any_r x12
    have z19 := any_r a1
    refine ur_ldI rfl rfl ?_
    refine ur_divV rfl (nz_of (by omega)) (fun x20 e21 => ?_)
    have z22 := any_r x16
    have z23 := any_r x5
    have t24 := trn_z (q := a2) (by omega) e13 e17 e21 (by omega) (by omega) (by omega)
    exact ur_ret rfl rfl (hQ _ ⟨_, rfl, by omega⟩ )
  · have t25 := ne_no c10
    exfalso
    omega

set_option maxRecDepth 20000 in
set_option maxHeartbeats 4000000 in
theorem sd_X12_turned {d kc ks : Nat} {h0 : aH} {Q : Option aV → aH → Prop} (hO0 : OK h0) (a0 : Int32) (b0 : -1 ≤ a0.toInt ∧ a0.toInt ≤ 1) (a1 : Int32) (b1 : -1000000 ≤ a1.toInt ∧ a1.toInt ≤ 1000000) (a2 : Int32) (b2 : 5 ≤ a2.toInt ∧ a2.toInt ≤ 99) (pre0 : a0.toInt = 1 ∨ a0.toInt = -1) (hQ : ∀ r, (∃ x : Int32, r = some (.inl x) ∧ (x.toInt = trn a0.toInt a1.toInt a2.toInt ∧ -90 ≤ x.toInt ∧ x.toInt ≤ 90)) → Q r h0) : uCall Mt (d + 2) 203 [(.inl a0), (.inl a1), (.inl a2)] h0 kc ks Q := by
  have l_90 : ((90) : Int32).toInt = 90 := by decide
  refine uc_ink [some (.inl a0), some (.inl a1), some (.inl a2)] mt_203 (Nat.le_of_ble_eq_true rfl) rfl ?_
  refine ur_ldI rfl rfl ?_
  refine ur_push rfl ?_
  refine ur_binV rfl (fun x1 e2 => ?_)
  have z3 := any_r a0
  have t4 := ti_mul1 e2 (by omega) (by omega)
  refine ur_ldI rfl rfl ?_
  refine ur_binV rfl (fun x5 e6 => ?_)
  have z7 := any_r x1
  have z8 := any_r a1
  refine ur_ldI rfl rfl ?_
  refine ur_inl rfl rfl (Nat.le_of_ble_eq_true rfl) (Nat.le_of_ble_eq_true rfl) (sf_X12_sizeOf _ (fun w9 hr10 => ?_))
  obtain ⟨x11, rfl, t12⟩ := hr10
  show uRun _ (uCall Mt _) _ 10 (_, [(.inl x11), (.inl x5)], _, _, _)
  refine ur_ldI rfl rfl ?_
  refine ur_binV rfl (fun x13 e14 => ?_)
  have z15 := any_r x11
  have z16 := any_r a2
  have t17 := ti_add e14 (by omega) (by omega)
  refine ur_divV rfl (nz_of (by omega)) (fun x18 e19 => ?_)
  have z20 := any_r x5
  have z21 := any_r x13
  have t22 := trn_z (q := a2) (by omega) e2 e6 e19 (by omega) (by omega) (by omega)
  exact ur_ret rfl rfl (hQ _ ⟨_, rfl, by omega⟩ )

set_option maxRecDepth 20000 in
set_option maxHeartbeats 4000000 in
theorem se_X11_apart {d kc ks : Nat} {h0 : aH} {Q : Option aV → aH → Prop} (hO0 : OK h0) (a0 : Int32) (b0 : 0 ≤ a0.toInt ∧ a0.toInt ≤ 359) (a1 : Int32) (b1 : 0 ≤ a1.toInt ∧ a1.toInt ≤ 359) (hQ : ∀ r, (∃ x : Int32, r = some (.inl x) ∧ (x.toInt = apF (a0.toInt - a1.toInt) ∧ 0 ≤ x.toInt ∧ x.toInt ≤ 180)) → Q r h0) : uCall Mt (d + 1) 179 [(.inl a0), (.inl a1)] h0 kc ks Q := by
  have l_360 : ((360) : Int32).toInt = 360 := by decide
  refine uc_ink [some (.inl a0), some (.inl a1), none] mt_179 (Nat.le_of_ble_eq_true rfl) rfl ?_
  refine ur_ldI rfl rfl ?_
  refine ur_ldI rfl rfl ?_
  refine ur_binV rfl (fun x1 e2 => ?_)
  have z3 := any_r a0
  have z4 := any_r a1
  have t5 := ti_sub e2 (by omega) (by omega)
  refine ur_absV rfl (by show ¬ 9 ≤ 1; decide) (fun x6 t7 e8 => ?_)
  have t9 := t7 (by omega)
  clear t7
  refine ur_push rfl ?_
  refine ur_divV rfl (by decide) (fun x10 e11 => ?_)
  have z12 := any_r x6
  have t13 := ti_rem e11 l_360 (by decide) (by omega)
  refine ur_svIk [some (.inl a0), some (.inl a1), some (.inl x10)] rfl rfl ?_
  refine ur_ldI rfl rfl ?_
  refine ur_push rfl ?_
  refine ur_ldI rfl rfl ?_
  refine ur_binV rfl (fun x14 e15 => ?_)
  have z16 := any_r x10
  have t17 := ti_sub e15 (by omega) (by omega)
  refine ur_minV rfl (by show ¬ 9 ≤ 2; decide) (fun x18 t19 e20 => ?_)
  exact ur_ret rfl rfl (hQ _ ⟨_, rfl, ⟨apF_of (by omega) (by unfold apP; omega), by omega⟩⟩ )

set_option maxRecDepth 20000 in
set_option maxHeartbeats 4000000 in
theorem se_X12_apartOf {d kc ks : Nat} {h0 : aH} {Q : Option aV → aH → Prop} (hO0 : OK h0) (a0 : Int32) (b0 : 0 ≤ a0.toInt ∧ a0.toInt ≤ 359) (a1 : Int32) (b1 : 0 ≤ a1.toInt ∧ a1.toInt ≤ 359) (hQ : ∀ r, (∃ x : Int32, r = some (.inl x) ∧ (x.toInt = apF (a0.toInt - a1.toInt) ∧ 0 ≤ x.toInt ∧ x.toInt ≤ 180)) → Q r h0) : uCall Mt (d + 2) 186 [(.inl a0), (.inl a1)] h0 kc ks Q := by
  have l_180 : ((180) : Int32).toInt = 180 := by decide
  have l_360 : ((360) : Int32).toInt = 360 := by decide
  refine uc_ink [some (.inl a0), some (.inl a1), none] mt_186 (Nat.le_of_ble_eq_true rfl) rfl ?_
  refine ur_ldI rfl rfl ?_
  refine ur_ldI rfl rfl ?_
  refine ur_binV rfl (fun x1 e2 => ?_)
  have z3 := any_r a0
  have z4 := any_r a1
  have t5 := ti_sub e2 (by omega) (by omega)
  refine ur_inl rfl rfl (Nat.le_of_ble_eq_true rfl) (Nat.le_of_ble_eq_true rfl) (sf_X12_sizeOf _ (fun w6 hr7 => ?_))
  obtain ⟨x8, rfl, t9⟩ := hr7
  show uRun _ (uCall Mt _) _ 6 (_, [(.inl x8)], _, _, _)
  refine ur_push rfl ?_
  refine ur_divV rfl (by decide) (fun x10 e11 => ?_)
  have z12 := any_r x8
  have t13 : 0 ≤ x8.toInt → x10.toInt = x8.toInt % 360 := fun q => ti_rem e11 l_360 (by decide) q
  refine ur_svIk [some (.inl a0), some (.inl a1), some (.inl x10)] rfl rfl ?_
  refine ur_ldI rfl rfl ?_
  refine ur_push rfl ?_
  refine ur_if2 rfl (fun c14 => ?_) (fun c14 => ?_)
  · have t15 := le_to c14
    refine ur_ldI rfl rfl ?_
    exact ur_ret rfl rfl (hQ _ ⟨_, rfl, ⟨apF_of (by omega) (by unfold apP; omega), by omega⟩⟩ )
  · have t16 := le_no c14
    refine ur_push rfl ?_
    refine ur_ldI rfl rfl ?_
    refine ur_binV rfl (fun x17 e18 => ?_)
    have z19 := any_r x10
    have t20 := ti_sub e18 (by omega) (by omega)
    refine ur_go rfl ?_
    exact ur_ret rfl rfl (hQ _ ⟨_, rfl, ⟨apF_of (by omega) (by unfold apP; omega), by omega⟩⟩ )

set_option maxRecDepth 20000 in
set_option maxHeartbeats 4000000 in
theorem sd_X2_degreeAt {d kc ks : Nat} {h0 : aH} {Q : Option aV → aH → Prop} (hO0 : OK h0) {a0 : Nat} (g0 : 114 ≤ a0) (t0 : tg h0 a0 = (102, 14)) (a1 : Int32) (b1 : -120 ≤ a1.toInt ∧ a1.toInt ≤ 120) (pre0 : CDz h0 a0) (hQ : ∀ r, (∃ x : Int32, r = some (.inl x) ∧ (x.toInt = dgF (fO h0 a0 2) (fO h0 a0 4) (fO h0 a0 3) a1.toInt ∧ 0 ≤ x.toInt ∧ x.toInt ≤ 359)) → Q r h0) : uCall Mt (d + 1) 22 [(.inr (.inr (some a0))), (.inl a1)] h0 kc ks Q := by
  have l_m120 : ((-120) : Int32).toInt = -120 := by decide
  have l_120 : ((120) : Int32).toInt = 120 := by decide
  refine uc_ink [some (.inr (.inr (some a0))), some (.inl a1)] mt_22 (Nat.le_of_ble_eq_true rfl) rfl ?_
  obtain ⟨g21, f2, f3, f4, f5, f6, f7, f8, f9, f10, f11, q12, q13, o14, q15, hc1, k16, k17, k18, k19, k20⟩ := hO0.comet t0
  refine ur_ldI rfl rfl ?_
  refine ur_push rfl ?_
  refine ur_if2 rfl (fun c22 => ?_) (fun c22 => ?_)
  · have t23 := lt_to c22
    exfalso
    omega
  · have t24 := lt_no c22
    refine ur_ldI rfl rfl ?_
    refine ur_push rfl ?_
    refine ur_if2 rfl (fun c25 => ?_) (fun c25 => ?_)
    · have t26 := lt_to c25
      exfalso
      omega
    · have t27 := lt_no c25
      refine ur_ldA rfl rfl ?_
      refine ur_get rfl hc1 rfl ?_
      refine ur_ldI rfl rfl ?_
      refine ur_push rfl ?_
      refine ur_binV rfl (fun x28 e29 => ?_)
      have z30 := any_r a1
      have t31 := ti_add e29 (by omega) (by omega)
      obtain ⟨xs33, hc32, hn34, he35⟩ := hO0.int k17.2
      refine ur_aldV rfl hc32 hn34 (by omega) (fun x36 hx37 => ?_)
      have t38 := gI_of (j := x28) hc32 hx37
      refine ur_go rfl ?_
      exact ur_ret rfl rfl (hQ _ ⟨_, rfl, (by have q := pre0.2.2.2.2 a1.toInt (by omega) (by omega); rw [show rP h0 a0 11 = q13 from rP_of (fA_of hc1), show a1.toInt + 120 = x28.toInt by omega, t38] at q; exact ⟨q, by rw [q]; exact dgF_r⟩)⟩ )

set_option maxRecDepth 20000 in
set_option maxHeartbeats 4000000 in
theorem sd_X2_distanceAt {d kc ks : Nat} {h0 : aH} {Q : Option aV → aH → Prop} (hO0 : OK h0) {a0 : Nat} (g0 : 114 ≤ a0) (t0 : tg h0 a0 = (102, 14)) (a1 : Int32) (b1 : -120 ≤ a1.toInt ∧ a1.toInt ≤ 120) (pre0 : CDz h0 a0) (hQ : ∀ r, (∃ x : Int32, r = some (.inl x) ∧ (x.toInt = fO h0 a0 3 + azI a1.toInt ∧ 5 ≤ x.toInt ∧ x.toInt ≤ 219)) → Q r h0) : uCall Mt (d + 1) 23 [(.inr (.inr (some a0))), (.inl a1)] h0 kc ks Q := by
  refine uc_ink [some (.inr (.inr (some a0))), some (.inl a1)] mt_23 (Nat.le_of_ble_eq_true rfl) rfl ?_
  obtain ⟨g21, f2, f3, f4, f5, f6, f7, f8, f9, f10, f11, q12, q13, o14, q15, hc1, k16, k17, k18, k19, k20⟩ := hO0.comet t0
  have t22 := fO_of (k := 3) hc1 rfl
  have tt23 := pre0.2.1
  refine ur_ldA rfl rfl ?_
  refine ur_get rfl hc1 rfl ?_
  refine ur_ldI rfl rfl ?_
  refine ur_absV rfl (by show ¬ 9 ≤ 2; decide) (fun x24 t25 e26 => ?_)
  have t27 := t25 (by omega)
  clear t25
  refine ur_binV rfl (fun x28 e29 => ?_)
  have z30 := any_r f5
  have z31 := any_r x24
  have t32 := ti_add e29 (by omega) (by omega)
  exact ur_ret rfl rfl (hQ _ ⟨_, rfl, ⟨by unfold azI; split <;> omega, by omega⟩⟩ )

set_option maxRecDepth 20000 in
set_option maxHeartbeats 4000000 in
theorem sd_X2_apartOfSun {d kc ks : Nat} {h0 : aH} {Q : Option aV → aH → Prop} (hO0 : OK h0) {a0 : Nat} (g0 : 114 ≤ a0) (t0 : tg h0 a0 = (102, 14)) (a1 : Int32) (b1 : -120 ≤ a1.toInt ∧ a1.toInt ≤ 120) (a2 : Int32) (b2 : 0 ≤ a2.toInt ∧ a2.toInt ≤ 999999) (pre0 : CDz h0 a0) (hQ : ∀ r, (∃ x : Int32, r = some (.inl x) ∧ (x.toInt = apF (dgF (fO h0 a0 2) (fO h0 a0 4) (fO h0 a0 3) a1.toInt - a2.toInt % 360) ∧ 0 ≤ x.toInt ∧ x.toInt ≤ 180)) → Q r h0) : uCall Mt (d + 2) 24 [(.inr (.inr (some a0))), (.inl a1), (.inl a2)] h0 kc ks Q := by
  have l_360 : ((360) : Int32).toInt = 360 := by decide
  refine uc_ink [some (.inr (.inr (some a0))), some (.inl a1), some (.inl a2)] mt_24 (Nat.le_of_ble_eq_true rfl) rfl ?_
  refine ur_ldA rfl rfl ?_
  refine ur_ldI rfl rfl ?_
  obtain ⟨g21, f2, f3, f4, f5, f6, f7, f8, f9, f10, f11, q12, q13, o14, q15, hc1, k16, k17, k18, k19, k20⟩ := hO0.comet t0
  refine ur_inl rfl (rcv_of hc1) (Nat.le_of_ble_eq_true rfl) (Nat.le_of_ble_eq_true rfl) (sd_X2_degreeAt hO0 g21 t0 _ (by show -120 ≤ a1.toInt ∧ a1.toInt ≤ 120; omega) pre0 (fun w22 hr23 => ?_))
  obtain ⟨x24, rfl, f25⟩ := hr23
  show uRun _ (uCall Mt _) _ 5 (_, [(.inl x24)], _, _, _)
  refine ur_ldI rfl rfl ?_
  refine ur_push rfl ?_
  refine ur_divV rfl (by decide) (fun x26 e27 => ?_)
  have z28 := any_r a2
  have t29 := ti_rem e27 l_360 (by decide) (by omega)
  refine ur_inl rfl rfl (Nat.le_of_ble_eq_true rfl) (Nat.le_of_ble_eq_true rfl) (se_X11_apart hO0 _ (by show 0 ≤ x24.toInt ∧ x24.toInt ≤ 359; omega) _ (by show 0 ≤ x26.toInt ∧ x26.toInt ≤ 359; omega) (fun w30 hr31 => ?_))
  obtain ⟨x32, rfl, f33⟩ := hr31
  show uRun _ (uCall Mt _) _ 13 (_, [(.inl x32)], _, _, _)
  exact ur_ret rfl rfl (hQ _ ⟨_, rfl, (by have q := f33.1; rw [f25.1, show x26.toInt = a2.toInt % 360 by omega] at q; exact ⟨q, f33.2⟩)⟩ )

set_option maxRecDepth 20000 in
set_option maxHeartbeats 4000000 in
theorem sd_X2_isWest {d kc ks : Nat} {h0 : aH} {Q : Option aV → aH → Prop} (hO0 : OK h0) {a0 : Nat} (g0 : 114 ≤ a0) (t0 : tg h0 a0 = (102, 14)) (a1 : Int32) (b1 : -120 ≤ a1.toInt ∧ a1.toInt ≤ 120) (a2 : Int32) (b2 : 0 ≤ a2.toInt ∧ a2.toInt ≤ 999999) (pre0 : CDz h0 a0) (hQ : ∀ r, (∃ q, r = some (.inl (bi q)) ∧ (q = true → wsF (dgF (fO h0 a0 2) (fO h0 a0 4) (fO h0 a0 3) a1.toInt) a2.toInt) ∧ (q = false → ¬ wsF (dgF (fO h0 a0 2) (fO h0 a0 4) (fO h0 a0 3) a1.toInt) a2.toInt)) → Q r h0) : uCall Mt (d + 2) 25 [(.inr (.inr (some a0))), (.inl a1), (.inl a2)] h0 kc ks Q := by
  have l_0 : ((0) : Int32).toInt = 0 := by decide
  have l_1 : ((1) : Int32).toInt = 1 := by decide
  have l_180 : ((180) : Int32).toInt = 180 := by decide
  have l_360 : ((360) : Int32).toInt = 360 := by decide
  refine uc_ink [some (.inr (.inr (some a0))), some (.inl a1), some (.inl a2)] mt_25 (Nat.le_of_ble_eq_true rfl) rfl ?_
  refine ur_ldA rfl rfl ?_
  refine ur_ldI rfl rfl ?_
  obtain ⟨g21, f2, f3, f4, f5, f6, f7, f8, f9, f10, f11, q12, q13, o14, q15, hc1, k16, k17, k18, k19, k20⟩ := hO0.comet t0
  refine ur_inl rfl (rcv_of hc1) (Nat.le_of_ble_eq_true rfl) (Nat.le_of_ble_eq_true rfl) (sd_X2_degreeAt hO0 g21 t0 _ (by show -120 ≤ a1.toInt ∧ a1.toInt ≤ 120; omega) pre0 (fun w22 hr23 => ?_))
  obtain ⟨x24, rfl, f25⟩ := hr23
  show uRun _ (uCall Mt _) _ 5 (_, [(.inl x24)], _, _, _)
  refine ur_ldI rfl rfl ?_
  refine ur_push rfl ?_
  refine ur_divV rfl (by decide) (fun x26 e27 => ?_)
  have z28 := any_r a2
  have t29 := ti_rem e27 l_360 (by decide) (by omega)
  refine ur_binV rfl (fun x30 e31 => ?_)
  have z32 := any_r x24
  have z33 := any_r x26
  have t34 := ti_sub e31 (by omega) (by omega)
  refine ur_push rfl ?_
  refine ur_binV rfl (fun x35 e36 => ?_)
  have z37 := any_r x30
  have t38 := ti_add e36 (by omega) (by omega)
  refine ur_push rfl ?_
  refine ur_divV rfl (by decide) (fun x39 e40 => ?_)
  have z41 := any_r x35
  have t42 := ti_rem e40 l_360 (by decide) (by omega)
  refine ur_push rfl ?_
  refine ur_if2 rfl (fun c43 => ?_) (fun c43 => ?_)
  · have t44 := le_to c43
    refine ur_push rfl ?_
    exact ur_ret rfl rfl (hQ _ ⟨false, rfl, fun e => absurd e (by decide), fun _ => (by unfold wsF; rw [← f25.1]; omega)⟩ )
  · have t45 := le_no c43
    refine ur_push rfl ?_
    refine ur_go rfl ?_
    exact ur_ret rfl rfl (hQ _ ⟨true, rfl, fun _ => (by unfold wsF; rw [← f25.1]; omega), fun e => absurd e (by decide)⟩ )

set_option maxRecDepth 20000 in
set_option maxHeartbeats 4000000 in
theorem sd_X5_offLodge {d kc ks : Nat} {h0 : aH} {Q : Option aV → aH → Prop} (hO0 : OK h0) (a0 : Int32) (b0 : 0 ≤ a0.toInt ∧ a0.toInt ≤ 359) (a1 : Int32) (b1 : 0 ≤ a1.toInt ∧ a1.toInt ≤ 23) (hQ : ∀ r, (∃ x : Int32, r = some (.inl x) ∧ (x.toInt = ofF a0.toInt a1.toInt ∧ 0 ≤ x.toInt ∧ x.toInt ≤ 345)) → Q r h0) : uCall Mt (d + 1) 56 [(.inl a0), (.inl a1)] h0 kc ks Q := by
  have l_0 : ((0) : Int32).toInt = 0 := by decide
  have l_1 : ((1) : Int32).toInt = 1 := by decide
  have l_15 : ((15) : Int32).toInt = 15 := by decide
  have l_360 : ((360) : Int32).toInt = 360 := by decide
  refine uc_ink [some (.inl a0), some (.inl a1), none, none] mt_56 (Nat.le_of_ble_eq_true rfl) rfl ?_
  refine ur_ldI rfl rfl ?_
  refine ur_push rfl ?_
  refine ur_binV rfl (fun x1 e2 => ?_)
  have z3 := any_r a1
  have t4 := ti_mulL e2 l_15 (by omega) (by omega)
  refine ur_svIk [some (.inl a0), some (.inl a1), some (.inl x1), none] rfl rfl ?_
  refine ur_ldI rfl rfl ?_
  refine ur_ldI rfl rfl ?_
  refine ur_binV rfl (fun x5 e6 => ?_)
  have z7 := any_r a0
  have z8 := any_r x1
  have t9 := ti_sub e6 (by omega) (by omega)
  refine ur_push rfl ?_
  refine ur_binV rfl (fun x10 e11 => ?_)
  have z12 := any_r x5
  have t13 := ti_add e11 (by omega) (by omega)
  refine ur_push rfl ?_
  refine ur_divV rfl (by decide) (fun x14 e15 => ?_)
  have z16 := any_r x10
  have t17 := ti_rem e15 l_360 (by decide) (by omega)
  refine ur_svIk [some (.inl a0), some (.inl a1), some (.inl x1), some (.inl x14)] rfl rfl ?_
  refine ur_ldI rfl rfl ?_
  refine ur_push rfl ?_
  refine ur_if2 rfl (fun c18 => ?_) (fun c18 => ?_)
  · have t19 := le_to c18
    refine ur_ldI rfl rfl ?_
    refine ur_push rfl ?_
    refine ur_binV rfl (fun x20 e21 => ?_)
    have z22 := any_r x14
    have t23 := ti_sub e21 (by omega) (by omega)
    refine ur_push rfl ?_
    refine ur_binV rfl (fun x24 e25 => ?_)
    have z26 := any_r x20
    have t27 := ti_add e25 (by omega) (by omega)
    refine ur_push rfl ?_
    refine ur_ldI rfl rfl ?_
    refine ur_binV rfl (fun x28 e29 => ?_)
    have t30 := ti_sub e29 (by omega) (by omega)
    refine ur_minV rfl (by show ¬ 9 ≤ 2; decide) (fun x31 t32 e33 => ?_)
    exact ur_ret rfl rfl (hQ _ ⟨_, rfl, ⟨by unfold ofF; split; omega; split <;> omega, by omega⟩⟩ )
  · have t34 := le_no c18
    refine ur_push rfl ?_
    exact ur_ret rfl rfl (hQ _ ⟨_, rfl, ⟨by unfold ofF; rw [if_pos (by omega)]; omega, by omega⟩⟩ )

set_option maxRecDepth 20000 in
set_option maxHeartbeats 4000000 in
theorem sd_X12_standsOn {d kc ks : Nat} {h0 : aH} {Q : Option aV → aH → Prop} (hO0 : OK h0) (hX0 : SX h0) (a1 : Int32) (b1 : 0 ≤ a1.toInt ∧ a1.toInt ≤ 11) (a2 : Int32) (b2 : -20000 ≤ a2.toInt ∧ a2.toInt ≤ 1020000) (a3 : Int32) (b3 : 0 ≤ a3.toInt ∧ a3.toInt ≤ 999999) (pre0 : SKm h0) (pre1 : a1.toInt < fI h0 4) (hQ : ∀ r h', (∃ q, r = some (.inl (bi q)) ∧ (q = true → (-120 ≤ (a3.toInt - a2.toInt) ∧ (a3.toInt - a2.toInt) ≤ 120)) ∧ (q = false → ¬ (-120 ≤ (a3.toInt - a2.toInt) ∧ (a3.toInt - a2.toInt) ≤ 120))) → OK h' → un [] h0 h' → (fI h' 17 = (a3.toInt - a2.toInt) ∧ ((-120 ≤ (a3.toInt - a2.toInt) ∧ (a3.toInt - a2.toInt) ≤ 120) → fI h' 15 = dgF (gI h0 74 a1.toInt) (gI h0 76 a1.toInt) (gI h0 75 a1.toInt) (a3.toInt - a2.toInt) ∧ (0 ≤ fI h' 15 ∧ fI h' 15 ≤ 359) ∧ fI h' 16 = gI h0 75 a1.toInt + azI (a3.toInt - a2.toInt))) → Q r h') : uCall Mt (d + 3) 204 [(.inr (.inr (some 69))), (.inl a1), (.inl a2), (.inl a3)] h0 kc ks Q := by
  have l_0 : ((0) : Int32).toInt = 0 := by decide
  have l_1 : ((1) : Int32).toInt = 1 := by decide
  have l_120 : ((120) : Int32).toInt = 120 := by decide
  have l_360 : ((360) : Int32).toInt = 360 := by decide
  refine uc_ink [some (.inr (.inr (some 69))), some (.inl a1), some (.inl a2), some (.inl a3)] mt_204 (Nat.le_of_ble_eq_true rfl) rfl ?_
  obtain ⟨fs1, hc2⟩ := hO0.mod
  obtain ⟨f3, p4, t5⟩ := mf_4 hO0 hc2
  have t6 := fI_of hc2 p4
  obtain ⟨f7, p8⟩ := mf_15 hO0 hc2
  have t9 := fI_of hc2 p8
  obtain ⟨f10, p11⟩ := mf_16 hO0 hc2
  have t12 := fI_of hc2 p11
  obtain ⟨f13, p14⟩ := mf_17 hO0 hc2
  have t15 := fI_of hc2 p14
  have r16 := (pre0.2.1 a1.toInt (by omega) (by omega)).1
  unfold CMm CMr at r16
  refine ur_ldA rfl rfl ?_
  refine ur_ldI rfl rfl ?_
  refine ur_ldI rfl rfl ?_
  refine ur_binV rfl (fun x17 e18 => ?_)
  have z19 := any_r a3
  have z20 := any_r a2
  have t21 := ti_sub e18 (by omega) (by omega)
  refine ur_putM (W := []) rfl hO0 hc2 (by decide) rfl (ms_17 (hO0.msh hc2)) (Or.inl rfl) (fun h23 hO23 hu23 d22 hc24 => ?_)
  have t25 := fI_of hc24 (gs_ne p8 (by decide))
  have t26 := fI_of hc24 (gs_ne p11 (by decide))
  have t27 := fI_of hc24 (gs_eq p14)
  refine ur_ldA rfl rfl ?_
  refine ur_get rfl hc24 (gs_eq p14) ?_
  have t28 := fI_keep (k := 4) hO0 hO23 hu23 rfl (by decide)
  refine ur_inl rfl rfl (Nat.le_of_ble_eq_true rfl) (Nat.le_of_ble_eq_true rfl) (sf_X12_sizeOf _ (fun w29 hr30 => ?_))
  obtain ⟨x31, rfl, t32⟩ := hr30
  show uRun _ (uCall Mt _) _ 14 (_, [(.inl x31)], _, _, _)
  refine ur_push rfl ?_
  refine ur_if2 rfl (fun c33 => ?_) (fun c33 => ?_)
  · have t34 := le_to c33
    refine ur_ldA rfl rfl ?_
    refine ur_ldA rfl rfl ?_
    refine ur_get rfl hc24 (mf_7 hO23 hc24) ?_
    refine ur_ldI rfl rfl ?_
    obtain ⟨xs36, hc35, hn37, he38⟩ := hO23.int (hO23.fix 74 (by decide) rfl)
    refine ur_aldV rfl hc35 hn37 (by omega) (fun x39 hx40 => ?_)
    have t41 := gI_of (j := a1) hc35 hx40
    have t42 := gI_keep (a := 74) (kd := 0) (n := 12) hO0 hu23 (a1 : Int32).toInt (by decide) rfl (by decide) rfl (by decide) (by decide)
    refine ur_ldA rfl rfl ?_
    refine ur_get rfl hc24 (mf_9 hO23 hc24) ?_
    refine ur_ldI rfl rfl ?_
    obtain ⟨xs44, hc43, hn45, he46⟩ := hO23.int (hO23.fix 76 (by decide) rfl)
    refine ur_aldV rfl hc43 hn45 (by omega) (fun x47 hx48 => ?_)
    have t49 := gI_of (j := a1) hc43 hx48
    have t50 := gI_keep (a := 76) (kd := 0) (n := 12) hO0 hu23 (a1 : Int32).toInt (by decide) rfl (by decide) rfl (by decide) (by decide)
    refine ur_ldA rfl rfl ?_
    refine ur_get rfl hc24 (gs_eq p14) ?_
    refine ur_ldA rfl rfl ?_
    refine ur_get rfl hc24 (mf_8 hO23 hc24) ?_
    refine ur_ldI rfl rfl ?_
    obtain ⟨xs52, hc51, hn53, he54⟩ := hO23.int (hO23.fix 75 (by decide) rfl)
    refine ur_aldV rfl hc51 hn53 (by omega) (fun x55 hx56 => ?_)
    have t57 := gI_of (j := a1) hc51 hx56
    have t58 := gI_keep (a := 75) (kd := 0) (n := 12) hO0 hu23 (a1 : Int32).toInt (by decide) rfl (by decide) rfl (by decide) (by decide)
    have t59 : 0 ≤ x55.toInt ∧ x55.toInt ≤ 99 := he54 _ _ hx56
    have t60 := SX.rx (j := a1) (hX0.un hO0 hO23 hu23 (by decide)) hc51 hx56 (by omega)
    refine ur_inl rfl rfl (Nat.le_of_ble_eq_true rfl) (Nat.le_of_ble_eq_true rfl) (sd_X12_turned hO23 _ (by show -1 ≤ x47.toInt ∧ x47.toInt ≤ 1; omega) _ (by show -1000000 ≤ x17.toInt ∧ x17.toInt ≤ 1000000; omega) _ (by show 5 ≤ x55.toInt ∧ x55.toInt ≤ 99; omega) (by omega) (fun w61 hr62 => ?_))
    obtain ⟨x63, rfl, t64⟩ := hr62
    show uRun _ (uCall Mt _) _ 47 (_, [(.inl x63), (.inl x39), (.inr (.inr (some 69)))], _, _, _)
    refine ur_binV rfl (fun x65 e66 => ?_)
    have z67 := any_r x39
    have z68 := any_r x63
    have t69 := ti_add e66 (by omega) (by omega)
    refine ur_push rfl ?_
    refine ur_binV rfl (fun x70 e71 => ?_)
    have z72 := any_r x65
    have t73 := ti_add e71 (by omega) (by omega)
    refine ur_push rfl ?_
    refine ur_divV rfl (by decide) (fun x74 e75 => ?_)
    have z76 := any_r x70
    have t77 := ti_rem e75 l_360 (by decide) (by omega)
    refine ur_putM (W := []) rfl hO23 hc24 (by decide) rfl (ms_15 (hO23.msh hc24)) (Or.inl rfl) (fun h79 hO79 hu79 d78 hc80 => ?_)
    have t81 := fI_of hc80 (gs_eq (gs_ne p8 (by decide)))
    have t82 := fI_of hc80 (gs_ne (gs_ne p11 (by decide)) (by decide))
    have t83 := fI_of hc80 (gs_ne (gs_eq p14) (by decide))
    refine ur_ldA rfl rfl ?_
    refine ur_ldA rfl rfl ?_
    refine ur_get rfl hc80 (mf_8 hO79 hc80) ?_
    refine ur_ldI rfl rfl ?_
    refine ur_aldV rfl ((d78 _ (by decide)).trans hc51) hn53 (by omega) (fun x84 hx85 => ?_)
    obtain rfl : x55 = x84 := Option.some.inj (hx56.symm.trans hx85)
    refine ur_ldA rfl rfl ?_
    refine ur_get rfl hc80 (gs_ne (gs_eq p14) (by decide)) ?_
    have t86 := fI_keep (k := 4) hO0 hO79 (hu23.tr hu79) rfl (by decide)
    refine ur_inl rfl rfl (Nat.le_of_ble_eq_true rfl) (Nat.le_of_ble_eq_true rfl) (sf_X12_sizeOf _ (fun w87 hr88 => ?_))
    obtain ⟨x89, rfl, t90⟩ := hr88
    show uRun _ (uCall Mt _) _ 73 (_, [(.inl x89), (.inl x55), (.inr (.inr (some 69)))], _, _, _)
    refine ur_binV rfl (fun x91 e92 => ?_)
    have z93 := any_r x55
    have z94 := any_r x89
    have t95 := ti_add e92 (by omega) (by omega)
    refine ur_putM (W := []) rfl hO79 hc80 (by decide) rfl (ms_16 (hO79.msh hc80)) (Or.inl rfl) (fun h97 hO97 hu97 d96 hc98 => ?_)
    have t99 := fI_of hc98 (gs_ne (gs_eq (gs_ne p8 (by decide))) (by decide))
    have t100 := fI_of hc98 (gs_eq (gs_ne (gs_ne p11 (by decide)) (by decide)))
    have t101 := fI_of hc98 (gs_ne (gs_ne (gs_eq p14) (by decide)) (by decide))
    refine ur_push rfl ?_
    have t102 := fI_of hc98 (gs_ne (gs_ne (gs_ne p4 (by decide)) (by decide)) (by decide))
    have t103 := fI_keep (k := 4) hO0 hO97 (hu23.tr (hu79.tr hu97)) rfl (by decide)
    exact ur_ret rfl rfl (hQ _ _ ⟨true, rfl, fun _ => (by omega), fun e => absurd e (by decide)⟩ hO97 (hu23.tr (hu79.tr hu97)) ⟨by omega, fun _ => ⟨(by unfold dgF; rw [show gI h0 76 a1.toInt = x47.toInt by omega, show a3.toInt - a2.toInt = x17.toInt by omega, show gI h0 75 a1.toInt = x55.toInt by omega, ← t64.1]; omega), by omega, (by unfold azI; split <;> omega)⟩⟩)
  · have t104 := le_no c33
    refine ur_push rfl ?_
    have t105 := fI_of hc24 (gs_ne p4 (by decide))
    exact ur_ret rfl rfl (hQ _ _ ⟨false, rfl, fun e => absurd e (by decide), fun _ => (by omega)⟩ hO23 hu23 ⟨by omega, fun q => by exfalso; omega⟩)

set_option maxRecDepth 20000 in
set_option maxHeartbeats 4000000 in
theorem sd_X12_sunApart {d kc ks : Nat} {h0 : aH} {Q : Option aV → aH → Prop} (hO0 : OK h0) (a1 : Int32) (b1 : 0 ≤ a1.toInt ∧ a1.toInt ≤ 999999) (pre0 : 0 ≤ fI h0 15 ∧ fI h0 15 ≤ 359) (hQ : ∀ r, (∃ x : Int32, r = some (.inl x) ∧ (x.toInt = apF (fI h0 15 - a1.toInt % 360) ∧ 0 ≤ x.toInt ∧ x.toInt ≤ 180)) → Q r h0) : uCall Mt (d + 3) 205 [(.inr (.inr (some 69))), (.inl a1)] h0 kc ks Q := by
  have l_360 : ((360) : Int32).toInt = 360 := by decide
  refine uc_ink [some (.inr (.inr (some 69))), some (.inl a1)] mt_205 (Nat.le_of_ble_eq_true rfl) rfl ?_
  obtain ⟨fs1, hc2⟩ := hO0.mod
  obtain ⟨f3, p4⟩ := mf_15 hO0 hc2
  have t5 := fI_of hc2 p4
  refine ur_ldA rfl rfl ?_
  refine ur_get rfl hc2 p4 ?_
  obtain ⟨f6, p7, t8⟩ := mf_19 hO0 hc2
  have t9 := fI_of hc2 p7
  have t10 : 0 ≤ f3.toInt ∧ f3.toInt ≤ 359 := by omega
  refine ur_ldI rfl rfl ?_
  refine ur_push rfl ?_
  refine ur_divV rfl (by decide) (fun x11 e12 => ?_)
  have z13 := any_r a1
  have t14 := ti_rem e12 l_360 (by decide) (by omega)
  refine ur_inl rfl rfl (Nat.le_of_ble_eq_true rfl) (Nat.le_of_ble_eq_true rfl) (se_X12_apartOf hO0 _ (by show 0 ≤ f3.toInt ∧ f3.toInt ≤ 359; omega) _ (by show 0 ≤ x11.toInt ∧ x11.toInt ≤ 359; omega) (fun w15 hr16 => ?_))
  obtain ⟨x17, rfl, f18⟩ := hr16
  show uRun _ (uCall Mt _) _ 12 (_, [(.inl x17)], _, _, _)
  exact ur_ret rfl rfl (hQ _ ⟨_, rfl, (by have q := f18.1; rw [show f3.toInt = fI h0 15 by omega, show x11.toInt = a1.toInt % 360 by omega] at q; exact ⟨q, f18.2⟩)⟩ )

set_option maxRecDepth 20000 in
set_option maxHeartbeats 4000000 in
theorem sd_X12_isWest {d kc ks : Nat} {h0 : aH} {Q : Option aV → aH → Prop} (hO0 : OK h0) (a1 : Int32) (b1 : 0 ≤ a1.toInt ∧ a1.toInt ≤ 999999) (pre0 : 0 ≤ fI h0 15 ∧ fI h0 15 ≤ 359) (hQ : ∀ r, (∃ q, r = some (.inl (bi q)) ∧ (q = true → wsF (fI h0 15) a1.toInt) ∧ (q = false → ¬ wsF (fI h0 15) a1.toInt)) → Q r h0) : uCall Mt (d + 1) 247 [(.inr (.inr (some 69))), (.inl a1)] h0 kc ks Q := by
  have l_0 : ((0) : Int32).toInt = 0 := by decide
  have l_1 : ((1) : Int32).toInt = 1 := by decide
  have l_180 : ((180) : Int32).toInt = 180 := by decide
  have l_360 : ((360) : Int32).toInt = 360 := by decide
  refine uc_ink [some (.inr (.inr (some 69))), some (.inl a1)] mt_247 (Nat.le_of_ble_eq_true rfl) rfl ?_
  obtain ⟨fs1, hc2⟩ := hO0.mod
  obtain ⟨f3, p4⟩ := mf_15 hO0 hc2
  have t5 := fI_of hc2 p4
  refine ur_ldA rfl rfl ?_
  refine ur_get rfl hc2 p4 ?_
  obtain ⟨f6, p7, t8⟩ := mf_19 hO0 hc2
  have t9 := fI_of hc2 p7
  have t10 : 0 ≤ f3.toInt ∧ f3.toInt ≤ 359 := by omega
  refine ur_ldI rfl rfl ?_
  refine ur_push rfl ?_
  refine ur_divV rfl (by decide) (fun x11 e12 => ?_)
  have z13 := any_r a1
  have t14 := ti_rem e12 l_360 (by decide) (by omega)
  refine ur_binV rfl (fun x15 e16 => ?_)
  have z17 := any_r f3
  have z18 := any_r x11
  have t19 := ti_sub e16 (by omega) (by omega)
  refine ur_push rfl ?_
  refine ur_binV rfl (fun x20 e21 => ?_)
  have z22 := any_r x15
  have t23 := ti_add e21 (by omega) (by omega)
  refine ur_push rfl ?_
  refine ur_divV rfl (by decide) (fun x24 e25 => ?_)
  have z26 := any_r x20
  have t27 := ti_rem e25 l_360 (by decide) (by omega)
  refine ur_push rfl ?_
  refine ur_if2 rfl (fun c28 => ?_) (fun c28 => ?_)
  · have t29 := le_to c28
    refine ur_push rfl ?_
    exact ur_ret rfl rfl (hQ _ ⟨false, rfl, fun e => absurd e (by decide), fun _ => (by unfold wsF; omega)⟩ )
  · have t30 := le_no c28
    refine ur_push rfl ?_
    refine ur_go rfl ?_
    exact ur_ret rfl rfl (hQ _ ⟨true, rfl, fun _ => (by unfold wsF; omega), fun e => absurd e (by decide)⟩ )

set_option maxRecDepth 20000 in
set_option maxHeartbeats 4000000 in
theorem sd_X12_lodgeApart {d kc ks : Nat} {h0 : aH} {Q : Option aV → aH → Prop} (hO0 : OK h0) (a0 : Int32) (b0 : 0 ≤ a0.toInt ∧ a0.toInt ≤ 23) (a1 : Int32) (b1 : 0 ≤ a1.toInt ∧ a1.toInt ≤ 359) (hQ : ∀ r, (∃ x : Int32, r = some (.inl x) ∧ (x.toInt = ofF a1.toInt a0.toInt)) → Q r h0) : uCall Mt (d + 3) 246 [(.inl a0), (.inl a1)] h0 kc ks Q := by
  have l_1 : ((1) : Int32).toInt = 1 := by decide
  have l_15 : ((15) : Int32).toInt = 15 := by decide
  have l_360 : ((360) : Int32).toInt = 360 := by decide
  refine uc_ink [some (.inl a0), some (.inl a1), none, none] mt_246 (Nat.le_of_ble_eq_true rfl) rfl ?_
  refine ur_push rfl ?_
  refine ur_svIk [some (.inl a0), some (.inl a1), some (.inl 360), none] rfl rfl ?_
  refine ur_push rfl ?_
  refine ur_ldI rfl rfl ?_
  refine ur_binV rfl (fun x1 e2 => ?_)
  have z3 := any_r a0
  have t4 := ti_mulR e2 l_15 (by omega) (by omega)
  refine ur_svIk [some (.inl a0), some (.inl a1), some (.inl 360), some (.inl x1)] rfl rfl ?_
  have L7 : ∀ (m8 : Nat) (x5 : Int32) (x6 : Int32) , ((0 ≤ x6.toInt ∧ x6.toInt ≤ 360) ∧ (0 ≤ x5.toInt ∧ x5.toInt ≤ 360) ∧ 15 * a0.toInt ≤ x6.toInt ∧ x6.toInt ≤ 15 * a0.toInt + 15) → (LOi a1.toInt (15 * a0.toInt) x6.toInt x5.toInt) → ((361 - x6.toInt).toNat) < m8 → uRun oX12_lodgeApart (uCall Mt (d + 2)) Q 9 ([some (.inl a0), some (.inl a1), some (.inl x5), some (.inl x6)], [], h0, kc, ks) := by
    intro m8
    induction m8 with
    | zero => intro x5 x6 iv11 px10 mm12; omega
    | succ m8 ih9 =>
      intro x5 x6 iv11 px10 mm12
      refine ur_ldI rfl rfl ?_
      refine ur_push rfl ?_
      refine ur_ldI rfl rfl ?_
      refine ur_binV rfl (fun x13 e14 => ?_)
      have t15 := ti_mulR e14 l_15 (by omega) (by omega)
      refine ur_push rfl ?_
      refine ur_binV rfl (fun x16 e17 => ?_)
      have z18 := any_r x13
      have t19 := ti_add e17 (by omega) (by omega)
      have z20 := any_r x6
      have z21 := any_r x16
      refine ur_if2 rfl (fun c22 => ?_) (fun c22 => ?_)
      · have t23 := le_to c22
        refine ur_ldI rfl rfl ?_
        exact ur_ret rfl rfl (hQ _ ⟨_, rfl, (LOi.e px10 (by omega) (by omega) (by omega))⟩ )
      · have t24 := le_no c22
        refine ur_ldI rfl rfl ?_
        refine ur_ldI rfl rfl ?_
        refine ur_inl rfl rfl (Nat.le_of_ble_eq_true rfl) (Nat.le_of_ble_eq_true rfl) (se_X12_apartOf hO0 _ (by show 0 ≤ x6.toInt ∧ x6.toInt ≤ 359; omega) _ (by show 0 ≤ a1.toInt ∧ a1.toInt ≤ 359; omega) (fun w25 hr26 => ?_))
        obtain ⟨x27, rfl, f28⟩ := hr26
        show uRun _ (uCall Mt _) _ 25 (_, [(.inl x27)], _, _, _)
        refine ur_ldI rfl rfl ?_
        have z29 := any_r x27
        have z30 := any_r x5
        refine ur_if2 rfl (fun c31 => ?_) (fun c31 => ?_)
        · have t32 := le_to c31
          refine ur_incV (fun z => [some (.inl a0), some (.inl a1), some (.inl x5), some (.inl z)]) rfl rfl (fun _ => rfl) (fun x33 e34 => ?_)
          have t35 := ti_add e34 (by omega) (by omega)
          refine ur_go rfl ?_
          have z36 := any_r x33
          exact ih9 x5 x33 (by omega) (LOi.n px10 (d := x6.toInt) f28.1 (by omega) (by omega)) (by omega)
        · have t37 := le_no c31
          refine ur_ldI rfl rfl ?_
          refine ur_ldI rfl rfl ?_
          refine ur_inl rfl rfl (Nat.le_of_ble_eq_true rfl) (Nat.le_of_ble_eq_true rfl) (se_X12_apartOf hO0 _ (by show 0 ≤ x6.toInt ∧ x6.toInt ≤ 359; omega) _ (by show 0 ≤ a1.toInt ∧ a1.toInt ≤ 359; omega) (fun w38 hr39 => ?_))
          obtain ⟨x40, rfl, f41⟩ := hr39
          show uRun _ (uCall Mt _) _ 34 (_, [(.inl x40)], _, _, _)
          refine ur_svIk [some (.inl a0), some (.inl a1), some (.inl x40), some (.inl x6)] rfl rfl ?_
          refine ur_incV (fun z => [some (.inl a0), some (.inl a1), some (.inl x40), some (.inl z)]) rfl rfl (fun _ => rfl) (fun x42 e43 => ?_)
          have t44 := ti_add e43 (by omega) (by omega)
          refine ur_go rfl ?_
          have z45 := any_r x40
          have z46 := any_r x42
          exact ih9 x40 x42 (by omega) (LOi.y px10 (d := x6.toInt) f41.1 (by have q := f28.1; have r := f41.1; omega) (by omega)) (by omega)
  have z47 := any_r x1
  exact L7 _ 360 x1 (by omega) (LOi.z (by omega) (by omega)) (Nat.lt_succ_self _)
end SGT
