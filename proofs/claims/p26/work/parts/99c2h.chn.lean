/-! CHANCE, printed by program but for its head -/
section CHN
def dN (z : Int32) : Int32 := z * 1103515245 + 12345
def uV (z : Int32) : Int := ((z.toUInt32 >>> ((8 : Int32).toUInt32 &&& Int32.toUInt32 31)).toInt32).toInt
theorem uV_r (z : Int32) : 0 ≤ uV z ∧ uV z ≤ 16777215 := by
  have h : ((z.toUInt32 >>> ((8 : Int32).toUInt32 &&& Int32.toUInt32 31)).toInt32).toBitVec.toNat = z.toBitVec.toNat / 2 ^ 8 := pk_ushr z 8 8 (by decide)
  have hz := z.toBitVec.isLt
  have h2 : uV z = (((z.toUInt32 >>> ((8 : Int32).toUInt32 &&& Int32.toUInt32 31)).toInt32).toBitVec.toNat : Int) := by
    show ((z.toUInt32 >>> ((8 : Int32).toUInt32 &&& Int32.toUInt32 31)).toInt32).toBitVec.toInt = _
    rw [BitVec.toInt_eq_toNat_cond, if_pos (by omega)]
  rw [h2, h]
  omega
def chz : Nat → Int32 → Int32
  | 0, z => z
  | n + 1, z => dN (dN (dN (dN (chz n z))))
def nrP (x n q : Int) : Prop := ((n ≤ x ∧ -x ≤ n) ∨ 360 - x ≤ n ∨ n ≤ x - 360) ∧ q ≤ x ∧ -x ≤ q
noncomputable def nr (x : Int) : Nat → Int32 → Int
  | 0, _ => 0
  | n + 1, z => nr x n z + (@ite _ (nrP x (uV (dN (chz n z)) % 360 - uV (dN (dN (dN (chz n z)))) % 360) (uV (dN (dN (chz n z))) % 95 - uV (dN (dN (dN (dN (chz n z))))) % 95)) (Classical.propDecidable _) 1 0)
theorem nr_0 {nf : Int → Nat → Int32 → Int} (hnf : nf = nr) (x : Int) (z : Int32) : nf x (iN 0) z = 0 := by rw [hnf]; rfl
theorem nr_s {dn : Int32 → Int32} (hdn : dn = dN) {uv : Int32 → Int} (huv : uv = uV) {cz : Nat → Int32 → Int32} (hcz : cz = chz) {nf : Int → Nat → Int32 → Int} (hnf : nf = nr) {x : Int} {i i' z0 z z1 z2 z3 z4 : Int32} (hi : 0 ≤ i.toInt) (e : i'.toInt = i.toInt + 1) (h : z = cz (iN i) z0) (h1 : z1 = dn z) (h2 : z2 = dn z1) (h3 : z3 = dn z2) (h4 : z4 = dn z3) : z4 = cz (iN i') z0 ∧ (nrP x (uv z1 % 360 - uv z3 % 360) (uv z2 % 95 - uv z4 % 95) → nf x (iN i') z0 = nf x (iN i) z0 + 1) ∧ (¬ nrP x (uv z1 % 360 - uv z3 % 360) (uv z2 % 95 - uv z4 % 95) → nf x (iN i') z0 = nf x (iN i) z0) := by
  have en : iN i' = iN i + 1 := by unfold iN; omega
  subst hdn huv hcz hnf h1 h2 h3 h4 h
  rw [en]
  refine ⟨rfl, fun q => ?_, fun q => ?_⟩
  · show nr x (iN i) z0 + _ = _
    rw [if_pos q]
  · show nr x (iN i) z0 + _ = _
    rw [if_neg q]
    exact Int.add_zero _
def apP (n a : Int) : Prop := (0 ≤ n → (n % 360 ≤ 180 → a = n % 360) ∧ (180 < n % 360 → a = 360 - n % 360)) ∧ (n < 0 → ((-n) % 360 ≤ 180 → a = (-n) % 360) ∧ (180 < (-n) % 360 → a = 360 - (-n) % 360))
theorem apP_c {n n' a : Int} (e : n = n') (h : apP n a) : apP n' a := e ▸ h
theorem nrP_c {x n n' q q' : Int} (e : n = n') (e2 : q = q') (h : nrP x n q) : nrP x n' q' := e ▸ e2 ▸ h
theorem nrN_c {x n n' q q' : Int} (e : n = n') (e2 : q = q') (h : ¬ nrP x n q) : ¬ nrP x n' q' := e ▸ e2 ▸ h
theorem apP_r {n a : Int} (hn : -359 ≤ n ∧ n ≤ 359) (h : apP n a) : (0 ≤ n ∧ (n ≤ 180 ∧ a = n ∨ 180 < n ∧ a = 360 - n)) ∨ (n < 0 ∧ (-180 ≤ n ∧ a = -n ∨ n < -180 ∧ a = 360 + n)) := by
  obtain ⟨h1, h2⟩ := h
  by_cases q : 0 ≤ n
  · obtain ⟨a1, a2⟩ := h1 q
    have e : n % 360 = n := Int.emod_eq_of_lt q (by omega)
    rw [e] at a1 a2
    refine Or.inl ⟨q, ?_⟩
    by_cases k : n ≤ 180
    · exact Or.inl ⟨k, a1 k⟩
    · exact Or.inr ⟨by omega, a2 (by omega)⟩
  · obtain ⟨a1, a2⟩ := h2 (by omega)
    have e : (-n) % 360 = -n := Int.emod_eq_of_lt (by omega) (by omega)
    rw [e] at a1 a2
    refine Or.inr ⟨by omega, ?_⟩
    by_cases k : -180 ≤ n
    · exact Or.inl ⟨k, a1 (by omega)⟩
    · have := a2 (by omega)
      exact Or.inr ⟨by omega, by omega⟩
theorem nr_yes {x n q a b : Int} (hn : -359 ≤ n ∧ n ≤ 359) (hA : apP n a) (h1 : a ≤ x) (hb : b = q ∨ b = -q) (h2 : b ≤ x) (h0 : 0 ≤ b) : nrP x n q := by
  have := apP_r hn hA
  unfold nrP
  refine ⟨by omega, by omega, by omega⟩
theorem nr_noA {x n q a : Int} (hn : -359 ≤ n ∧ n ≤ 359) (hA : apP n a) (h1 : x < a) (hx : 0 ≤ x ∧ x ≤ 180) : ¬ nrP x n q := fun h => by
  have := apP_r hn hA
  obtain ⟨g, -⟩ := h
  omega
theorem nr_noB {x n q b : Int} (hb : b = q ∨ b = -q) (h1 : x < b) : ¬ nrP x n q := fun h => by
  obtain ⟨-, g1, g2⟩ := h
  omega
set_option maxRecDepth 20000 in
set_option maxHeartbeats 4000000 in
theorem sd_X11_drawn {d kc ks : Nat} {h0 : aH} {Q : Option aV → aH → Prop} {dn : Int32 → Int32} (hdn : dn = dN) {uv : Int32 → Int} (huv : uv = uV) {cz : Nat → Int32 → Int32} (hcz : cz = chz) {nf : Int → Nat → Int32 → Int} (hnf : nf = nr) (hO0 : OK h0) (a0 : Int32) (hQ : ∀ r, (∃ x : Int32, r = some (.inl x) ∧ (x = dn a0)) → Q r h0) : uCall Mt (d + 1) 169 [(.inl a0)] h0 kc ks Q := by
  have l_12345 : ((12345) : Int32).toInt = 12345 := by decide
  have l_1103515245 : ((1103515245) : Int32).toInt = 1103515245 := by decide
  refine uc_ink [some (.inl a0)] mt_169 (Nat.le_of_ble_eq_true rfl) rfl ?_
  refine ur_ldI rfl rfl ?_
  refine ur_push rfl ?_
  refine ur_binV rfl (fun x1 e2 => ?_)
  have z3 := any_r a0
  refine ur_push rfl ?_
  refine ur_binV rfl (fun x4 e5 => ?_)
  have z6 := any_r x1
  exact ur_ret rfl rfl (hQ _ ⟨_, rfl, (by rw [hdn]; subst e5 e2; rfl)⟩ )

set_option maxRecDepth 20000 in
set_option maxHeartbeats 4000000 in
theorem sd_X11_drawnNode {d kc ks : Nat} {h0 : aH} {Q : Option aV → aH → Prop} {dn : Int32 → Int32} (hdn : dn = dN) {uv : Int32 → Int} (huv : uv = uV) {cz : Nat → Int32 → Int32} (hcz : cz = chz) {nf : Int → Nat → Int32 → Int} (hnf : nf = nr) (hO0 : OK h0) (a0 : Int32) (hQ : ∀ r, (∃ x : Int32, r = some (.inl x) ∧ (x.toInt = uv a0 % 360 ∧ 0 ≤ x.toInt ∧ x.toInt ≤ 359)) → Q r h0) : uCall Mt (d + 1) 170 [(.inl a0)] h0 kc ks Q := by
  have l_8 : ((8) : Int32).toInt = 8 := by decide
  have l_360 : ((360) : Int32).toInt = 360 := by decide
  refine uc_ink [some (.inl a0)] mt_170 (Nat.le_of_ble_eq_true rfl) rfl ?_
  refine ur_ldI rfl rfl ?_
  refine ur_push rfl ?_
  refine ur_binV rfl (fun x1 e2 => ?_)
  have t3 : x1.toInt = uv a0 := by rw [huv, ← e2]; rfl
  have t4 : 0 ≤ uv a0 ∧ uv a0 ≤ 16777215 := by rw [huv]; exact uV_r a0
  refine ur_push rfl ?_
  refine ur_divV rfl (by decide) (fun x5 e6 => ?_)
  have z7 := any_r x1
  have t8 := ti_rem e6 l_360 (by decide) (by omega)
  exact ur_ret rfl rfl (hQ _ ⟨_, rfl, by omega⟩ )

set_option maxRecDepth 20000 in
set_option maxHeartbeats 4000000 in
theorem sd_X11_drawnReach {d kc ks : Nat} {h0 : aH} {Q : Option aV → aH → Prop} {dn : Int32 → Int32} (hdn : dn = dN) {uv : Int32 → Int} (huv : uv = uV) {cz : Nat → Int32 → Int32} (hcz : cz = chz) {nf : Int → Nat → Int32 → Int} (hnf : nf = nr) (hO0 : OK h0) (a0 : Int32) (hQ : ∀ r, (∃ x : Int32, r = some (.inl x) ∧ (x.toInt = 5 + uv a0 % 95 ∧ 5 ≤ x.toInt ∧ x.toInt ≤ 99)) → Q r h0) : uCall Mt (d + 1) 171 [(.inl a0)] h0 kc ks Q := by
  have l_5 : ((5) : Int32).toInt = 5 := by decide
  have l_8 : ((8) : Int32).toInt = 8 := by decide
  have l_95 : ((95) : Int32).toInt = 95 := by decide
  refine uc_ink [some (.inl a0)] mt_171 (Nat.le_of_ble_eq_true rfl) rfl ?_
  refine ur_push rfl ?_
  refine ur_ldI rfl rfl ?_
  refine ur_push rfl ?_
  refine ur_binV rfl (fun x1 e2 => ?_)
  have t3 : x1.toInt = uv a0 := by rw [huv, ← e2]; rfl
  have t4 : 0 ≤ uv a0 ∧ uv a0 ≤ 16777215 := by rw [huv]; exact uV_r a0
  refine ur_push rfl ?_
  refine ur_divV rfl (by decide) (fun x5 e6 => ?_)
  have z7 := any_r x1
  have t8 := ti_rem e6 l_95 (by decide) (by omega)
  refine ur_binV rfl (fun x9 e10 => ?_)
  have z11 := any_r x5
  have t12 := ti_add e10 (by omega) (by omega)
  exact ur_ret rfl rfl (hQ _ ⟨_, rfl, by omega⟩ )

set_option maxRecDepth 20000 in
set_option maxHeartbeats 4000000 in
theorem sd_X11_apart {d kc ks : Nat} {h0 : aH} {Q : Option aV → aH → Prop} (hO0 : OK h0) (a0 : Int32) (b0 : -100000 ≤ a0.toInt ∧ a0.toInt ≤ 100000) (a1 : Int32) (b1 : -100000 ≤ a1.toInt ∧ a1.toInt ≤ 100000) (hQ : ∀ r, (∃ x : Int32, r = some (.inl x) ∧ (apP (a0.toInt - a1.toInt) x.toInt)) → Q r h0) : uCall Mt (d + 1) 179 [(.inl a0), (.inl a1)] h0 kc ks Q := by
  have l_360 : ((360) : Int32).toInt = 360 := by decide
  refine uc_ink [some (.inl a0), some (.inl a1), none] mt_179 (Nat.le_of_ble_eq_true rfl) rfl ?_
  refine ur_ldI rfl rfl ?_
  refine ur_ldI rfl rfl ?_
  refine ur_binV rfl (fun x1 e2 => ?_)
  have z3 := any_r a0
  have z4 := any_r a1
  have t5 := ti_sub e2 (by omega) (by omega)
  refine ur_absV rfl (by show ¬ 9 ≤ 1; decide) (fun x6 t7 e8 => ?_)
  have t9 := t7 (by omega)
  refine ur_push rfl ?_
  refine ur_divV rfl (by decide) (fun x10 e11 => ?_)
  have z12 := any_r x6
  have t13 := ti_rem e11 l_360 (by decide) (by omega)
  refine ur_svIk [some (.inl a0), some (.inl a1), some (.inl x10)] rfl rfl ?_
  refine ur_ldI rfl rfl ?_
  refine ur_push rfl ?_
  refine ur_ldI rfl rfl ?_
  refine ur_binV rfl (fun x14 e15 => ?_)
  have z16 := any_r x10
  have t17 := ti_sub e15 (by omega) (by omega)
  refine ur_minV rfl (by show ¬ 9 ≤ 2; decide) (fun x18 t19 e20 => ?_)
  exact ur_ret rfl rfl (hQ _ ⟨_, rfl, (by unfold apP; omega)⟩ )

set_option maxRecDepth 20000 in
set_option maxHeartbeats 4000000 in
theorem sd_X11_isNear {d kc ks : Nat} {h0 : aH} {Q : Option aV → aH → Prop} (hO0 : OK h0) (a0 : Int32) (b0 : -359 ≤ a0.toInt ∧ a0.toInt ≤ 359) (a1 : Int32) (b1 : -99 ≤ a1.toInt ∧ a1.toInt ≤ 99) (a2 : Int32) (b2 : 0 ≤ a2.toInt ∧ a2.toInt ≤ 180) (hQ : ∀ r, (∃ q, r = some (.inl (bi q)) ∧ (q = true → nrP a2.toInt a0.toInt a1.toInt) ∧ (q = false → ¬ nrP a2.toInt a0.toInt a1.toInt)) → Q r h0) : uCall Mt (d + 2) 172 [(.inl a0), (.inl a1), (.inl a2)] h0 kc ks Q := by
  have l_0 : ((0) : Int32).toInt = 0 := by decide
  have l_1 : ((1) : Int32).toInt = 1 := by decide
  refine uc_ink [some (.inl a0), some (.inl a1), some (.inl a2)] mt_172 (Nat.le_of_ble_eq_true rfl) rfl ?_
  refine ur_ldI rfl rfl ?_
  refine ur_push rfl ?_
  refine ur_inl rfl rfl (Nat.le_of_ble_eq_true rfl) (Nat.le_of_ble_eq_true rfl) (sd_X11_apart hO0 _ (by show -100000 ≤ a0.toInt ∧ a0.toInt ≤ 100000; omega) _ (by show -100000 ≤ (0 : Int32).toInt ∧ (0 : Int32).toInt ≤ 100000; omega) (fun w1 hr2 => ?_))
  obtain ⟨x3, rfl, f4⟩ := hr2
  show uRun _ (uCall Mt _) _ 5 (_, [(.inl x3)], _, _, _)
  refine ur_ldI rfl rfl ?_
  have z5 := any_r x3
  have z6 := any_r a2
  refine ur_if2 rfl (fun c7 => ?_) (fun c7 => ?_)
  · have t8 := lt_to c7
    refine ur_push rfl ?_
    exact ur_ret rfl rfl (hQ _ ⟨false, rfl, fun e => absurd e (by decide), fun _ => nr_noA (a := x3.toInt) (by omega) (apP_c (by omega) f4) (by omega) (by omega)⟩ )
  · have t9 := lt_no c7
    refine ur_ldI rfl rfl ?_
    refine ur_absV rfl (by show ¬ 9 ≤ 1; decide) (fun x10 t11 e12 => ?_)
    have t13 := t11 (by omega)
    refine ur_ldI rfl rfl ?_
    have z14 := any_r x10
    refine ur_if2 rfl (fun c15 => ?_) (fun c15 => ?_)
    · have t16 := lt_to c15
      refine ur_push rfl ?_
      exact ur_ret rfl rfl (hQ _ ⟨false, rfl, fun e => absurd e (by decide), fun _ => nr_noB (b := x10.toInt) (by omega) (by omega)⟩ )
    · have t17 := lt_no c15
      refine ur_push rfl ?_
      refine ur_go rfl ?_
      exact ur_ret rfl rfl (hQ _ ⟨true, rfl, fun _ => nr_yes (a := x3.toInt) (b := x10.toInt) (by omega) (apP_c (by omega) f4) (by omega) (by omega) (by omega) (by omega), fun e => absurd e (by decide)⟩ )

set_option maxRecDepth 20000 in
set_option maxHeartbeats 4000000 in
theorem sd_X11_thousandthsNear {d kc ks : Nat} {h0 : aH} {Q : Option aV → aH → Prop} {dn : Int32 → Int32} (hdn : dn = dN) {uv : Int32 → Int} (huv : uv = uV) {cz : Nat → Int32 → Int32} (hcz : cz = chz) {nf : Int → Nat → Int32 → Int} (hnf : nf = nr) (hO0 : OK h0) (a0 : Int32) (b0 : 0 ≤ a0.toInt ∧ a0.toInt ≤ 180) (a1 : Int32) (a2 : Int32) (b2 : 1 ≤ a2.toInt ∧ a2.toInt ≤ 200) (hQ : ∀ r, (∃ x : Int32, r = some (.inl x) ∧ (∃ q : Int32, q.toInt = nf a0.toInt (iN a2) a1 ∧ x = 1000 * q / a2)) → Q r h0) : uCall Mt (d + 3) 168 [(.inl a0), (.inl a1), (.inl a2)] h0 kc ks Q := by
  have l_0 : ((0) : Int32).toInt = 0 := by decide
  have l_1 : ((1) : Int32).toInt = 1 := by decide
  have l_1000 : ((1000) : Int32).toInt = 1000 := by decide
  refine uc_ink [some (.inl a0), some (.inl a1), some (.inl a2), none, none, none, none, none, none] mt_168 (Nat.le_of_ble_eq_true rfl) rfl ?_
  refine ur_ldI rfl rfl ?_
  refine ur_if1 rfl (fun c1 => ?_) (fun c1 => ?_)
  · have t2 := lt_to c1
    refine ur_ldI rfl rfl ?_
    refine ur_svIk [some (.inl a0), some (.inl a1), some (.inl a2), some (.inl a1), none, none, none, none, none] rfl rfl ?_
    refine ur_push rfl ?_
    refine ur_svIk [some (.inl a0), some (.inl a1), some (.inl a2), some (.inl a1), some (.inl 0), none, none, none, none] rfl rfl ?_
    refine ur_push rfl ?_
    have t3 := nr_0 hnf a0.toInt a1
    refine ur_svIk [some (.inl a0), some (.inl a1), some (.inl a2), some (.inl a1), some (.inl 0), some (.inl 0), none, none, none] rfl rfl ?_
    have L10 : ∀ (m11 : Nat) (x4 : Int32) (x5 : Int32) (x6 : Int32) (u7 : Option aV) (u8 : Option aV) (u9 : Option aV) , ((0 ≤ x6.toInt ∧ x6.toInt ≤ 200) ∧ (0 ≤ x5.toInt ∧ x5.toInt ≤ 200) ∧ x5.toInt ≤ x6.toInt ∧ x5.toInt = nf a0.toInt (iN x6) a1 ∧ x6.toInt ≤ a2.toInt) → (x4 = cz (iN x6) a1) → ((201 - x6.toInt).toNat) < m11 → uRun oX11_thousandthsNear (uCall Mt (d + 2)) Q 14 ([some (.inl a0), some (.inl a1), some (.inl a2), some (.inl x4), some (.inl x5), some (.inl x6), u7, u8, u9], [], h0, kc, ks) := by
      intro m11
      induction m11 with
      | zero => intro x4 x5 x6 u7 u8 u9 iv14 px13 mm15; omega
      | succ m11 ih12 =>
        intro x4 x5 x6 u7 u8 u9 iv14 px13 mm15
        refine ur_ldI rfl rfl ?_
        refine ur_ldI rfl rfl ?_
        have z16 := any_r x6
        have z17 := any_r a2
        refine ur_if2 rfl (fun c18 => ?_) (fun c18 => ?_)
        · have t19 := le_to c18
          refine ur_push rfl ?_
          refine ur_ldI rfl rfl ?_
          refine ur_binV rfl (fun x20 e21 => ?_)
          have z22 := any_r x5
          have t23 := ti_mulR e21 l_1000 (by omega) (by omega)
          refine ur_ldI rfl rfl ?_
          refine ur_divV rfl (nz_of (by omega)) (fun x24 e25 => ?_)
          have z26 := any_r x20
          have t27 := ti_divP e25 (by omega) (by omega)
          exact ur_ret rfl rfl (hQ _ ⟨_, rfl, ⟨x5, by omega, by rw [← e25, ← e21]⟩⟩ )
        · have t28 := le_no c18
          refine ur_ldI rfl rfl ?_
          refine ur_inl rfl rfl (Nat.le_of_ble_eq_true rfl) (Nat.le_of_ble_eq_true rfl) (sd_X11_drawn hdn huv hcz hnf hO0 _ (fun w29 hr30 => ?_))
          obtain ⟨x31, rfl, f32⟩ := hr30
          show uRun _ (uCall Mt _) _ 24 (_, [(.inl x31)], _, _, _)
          refine ur_svIk [some (.inl a0), some (.inl a1), some (.inl a2), some (.inl x31), some (.inl x5), some (.inl x6), u7, u8, u9] rfl rfl ?_
          refine ur_ldI rfl rfl ?_
          refine ur_inl rfl rfl (Nat.le_of_ble_eq_true rfl) (Nat.le_of_ble_eq_true rfl) (sd_X11_drawnNode hdn huv hcz hnf hO0 _ (fun w33 hr34 => ?_))
          obtain ⟨x35, rfl, t36⟩ := hr34
          show uRun _ (uCall Mt _) _ 29 (_, [(.inl x35)], _, _, _)
          refine ur_svIk [some (.inl a0), some (.inl a1), some (.inl a2), some (.inl x31), some (.inl x5), some (.inl x6), some (.inl x35), u8, u9] rfl rfl ?_
          refine ur_ldI rfl rfl ?_
          refine ur_inl rfl rfl (Nat.le_of_ble_eq_true rfl) (Nat.le_of_ble_eq_true rfl) (sd_X11_drawn hdn huv hcz hnf hO0 _ (fun w37 hr38 => ?_))
          obtain ⟨x39, rfl, f40⟩ := hr38
          show uRun _ (uCall Mt _) _ 35 (_, [(.inl x39)], _, _, _)
          refine ur_svIk [some (.inl a0), some (.inl a1), some (.inl a2), some (.inl x39), some (.inl x5), some (.inl x6), some (.inl x35), u8, u9] rfl rfl ?_
          refine ur_ldI rfl rfl ?_
          refine ur_inl rfl rfl (Nat.le_of_ble_eq_true rfl) (Nat.le_of_ble_eq_true rfl) (sd_X11_drawnReach hdn huv hcz hnf hO0 _ (fun w41 hr42 => ?_))
          obtain ⟨x43, rfl, t44⟩ := hr42
          show uRun _ (uCall Mt _) _ 40 (_, [(.inl x43)], _, _, _)
          refine ur_svIk [some (.inl a0), some (.inl a1), some (.inl a2), some (.inl x39), some (.inl x5), some (.inl x6), some (.inl x35), some (.inl x43), u9] rfl rfl ?_
          refine ur_ldI rfl rfl ?_
          refine ur_inl rfl rfl (Nat.le_of_ble_eq_true rfl) (Nat.le_of_ble_eq_true rfl) (sd_X11_drawn hdn huv hcz hnf hO0 _ (fun w45 hr46 => ?_))
          obtain ⟨x47, rfl, f48⟩ := hr46
          show uRun _ (uCall Mt _) _ 46 (_, [(.inl x47)], _, _, _)
          refine ur_svIk [some (.inl a0), some (.inl a1), some (.inl a2), some (.inl x47), some (.inl x5), some (.inl x6), some (.inl x35), some (.inl x43), u9] rfl rfl ?_
          refine ur_ldI rfl rfl ?_
          refine ur_inl rfl rfl (Nat.le_of_ble_eq_true rfl) (Nat.le_of_ble_eq_true rfl) (sd_X11_drawnNode hdn huv hcz hnf hO0 _ (fun w49 hr50 => ?_))
          obtain ⟨x51, rfl, t52⟩ := hr50
          show uRun _ (uCall Mt _) _ 51 (_, [(.inl x51)], _, _, _)
          refine ur_svIk [some (.inl a0), some (.inl a1), some (.inl a2), some (.inl x47), some (.inl x5), some (.inl x6), some (.inl x35), some (.inl x43), some (.inl x51)] rfl rfl ?_
          refine ur_ldI rfl rfl ?_
          refine ur_inl rfl rfl (Nat.le_of_ble_eq_true rfl) (Nat.le_of_ble_eq_true rfl) (sd_X11_drawn hdn huv hcz hnf hO0 _ (fun w53 hr54 => ?_))
          obtain ⟨x55, rfl, f56⟩ := hr54
          show uRun _ (uCall Mt _) _ 57 (_, [(.inl x55)], _, _, _)
          refine ur_svIk [some (.inl a0), some (.inl a1), some (.inl a2), some (.inl x55), some (.inl x5), some (.inl x6), some (.inl x35), some (.inl x43), some (.inl x51)] rfl rfl ?_
          refine ur_ldI rfl rfl ?_
          refine ur_ldI rfl rfl ?_
          refine ur_binV rfl (fun x57 e58 => ?_)
          have z59 := any_r x35
          have z60 := any_r x51
          have t61 := ti_sub e58 (by omega) (by omega)
          refine ur_ldI rfl rfl ?_
          refine ur_ldI rfl rfl ?_
          refine ur_inl rfl rfl (Nat.le_of_ble_eq_true rfl) (Nat.le_of_ble_eq_true rfl) (sd_X11_drawnReach hdn huv hcz hnf hO0 _ (fun w62 hr63 => ?_))
          obtain ⟨x64, rfl, t65⟩ := hr63
          show uRun _ (uCall Mt _) _ 69 (_, [(.inl x64), (.inl x43), (.inl x57)], _, _, _)
          refine ur_binV rfl (fun x66 e67 => ?_)
          have z68 := any_r x43
          have z69 := any_r x64
          have t70 := ti_sub e67 (by omega) (by omega)
          refine ur_ldI rfl rfl ?_
          refine ur_inl rfl rfl (Nat.le_of_ble_eq_true rfl) (Nat.le_of_ble_eq_true rfl) (sd_X11_isNear hO0 _ (by show -359 ≤ x57.toInt ∧ x57.toInt ≤ 359; omega) _ (by show -99 ≤ x66.toInt ∧ x66.toInt ≤ 99; omega) _ (by show 0 ≤ a0.toInt ∧ a0.toInt ≤ 180; omega) (fun w71 hr72 => ?_))
          obtain ⟨b73, rfl, t74, t75⟩ := hr72
          show uRun _ (uCall Mt _) _ 74 (_, [(.inl (bi b73))], _, _, _)
          refine ur_eqB rfl (fun c76 => ?_) (fun c76 => ?_)
          · have t77 := t75 c76
            refine ur_incV (fun z => [some (.inl a0), some (.inl a1), some (.inl a2), some (.inl x55), some (.inl x5), some (.inl z), some (.inl x35), some (.inl x43), some (.inl x51)]) rfl rfl (fun _ => rfl) (fun x78 e79 => ?_)
            have t80 := ti_add e79 (by omega) (by omega)
            have t81 := nr_s hdn huv hcz hnf (x := a0.toInt) (i := x6) (i' := x78) (by omega) (by omega) px13 f32 f40 f48 f56
            have t82 := t81.2.2 (nrN_c (by omega) (by omega) (t75 c76))
            refine ur_go rfl ?_
            have z83 := any_r x5
            have z84 := any_r x78
            exact ih12 x55 x5 x78 _ _ _ (by omega) t81.1 (by omega)
          · have t85 := t74 c76
            refine ur_incV (fun z => [some (.inl a0), some (.inl a1), some (.inl a2), some (.inl x55), some (.inl z), some (.inl x6), some (.inl x35), some (.inl x43), some (.inl x51)]) rfl rfl (fun _ => rfl) (fun x86 e87 => ?_)
            have z88 := any_r x5
            have t89 := ti_add e87 (by omega) (by omega)
            refine ur_incV (fun z => [some (.inl a0), some (.inl a1), some (.inl a2), some (.inl x55), some (.inl x86), some (.inl z), some (.inl x35), some (.inl x43), some (.inl x51)]) rfl rfl (fun _ => rfl) (fun x90 e91 => ?_)
            have t92 := ti_add e91 (by omega) (by omega)
            have t93 := nr_s hdn huv hcz hnf (x := a0.toInt) (i := x6) (i' := x90) (by omega) (by omega) px13 f32 f40 f48 f56
            have t94 := t93.2.1 (nrP_c (by omega) (by omega) (t74 c76))
            refine ur_go rfl ?_
            have z95 := any_r x86
            have z96 := any_r x90
            exact ih12 x55 x86 x90 _ _ _ (by omega) t93.1 (by omega)
    exact L10 _ a1 0 0 (none) (none) (none) (by omega) (by rw [hcz]; rfl) (Nat.lt_succ_self _)
  · have t97 := lt_no c1
    exfalso
    omega

set_option maxRecDepth 20000 in
set_option maxHeartbeats 4000000 in
theorem sd_X11_chance {d kc ks : Nat} {h0 : aH} {Q : Option aV → aH → Prop} {dn : Int32 → Int32} (hdn : dn = dN) {uv : Int32 → Int} (huv : uv = uV) {cz : Nat → Int32 → Int32} (hcz : cz = chz) {nf : Int → Nat → Int32 → Int} (hnf : nf = nr) (hO0 : OK h0) (a1 : Int32) (a2 : Int32) (a3 : Int32) (hQ : ∀ r, (∃ x : Int32, r = some (.inl x) ∧ (((0 ≤ a1.toInt ∧ a1.toInt ≤ 180) ∧ (1 ≤ a3.toInt ∧ a3.toInt ≤ 200)) ∧ (∃ q : Int32, q.toInt = nf a1.toInt (iN a3) a2 ∧ x = 1000 * q / a3) ∨ ¬ ((0 ≤ a1.toInt ∧ a1.toInt ≤ 180) ∧ (1 ≤ a3.toInt ∧ a3.toInt ≤ 200)) ∧ x.toInt = -1)) → Q r h0) : uCall Mt (d + 4) 151 [(.inr (.inr (some 0))), (.inl a1), (.inl a2), (.inl a3)] h0 kc ks Q := by
  have l_m1 : ((-1) : Int32).toInt = -1 := by decide
  have l_0 : ((0) : Int32).toInt = 0 := by decide
  have l_1 : ((1) : Int32).toInt = 1 := by decide
  have l_180 : ((180) : Int32).toInt = 180 := by decide
  have l_200 : ((200) : Int32).toInt = 200 := by decide
  refine uc_ink [some (.inr (.inr (some 0))), some (.inl a1), some (.inl a2), some (.inl a3)] mt_151 (Nat.le_of_ble_eq_true rfl) rfl ?_
  refine ur_ldI rfl rfl ?_
  refine ur_push rfl ?_
  refine ur_push rfl ?_
  refine ur_callv rfl rfl (Nat.le_of_ble_eq_true rfl) (Nat.le_of_ble_eq_true rfl) rfl (sp_within _ _ _ _ _) ?_
  refine ur_eqB rfl (fun c3 => ?_) (fun c3 => ?_)
  · have t4 := wi_noL c3 l_0 l_180
    refine ur_push rfl ?_
    exact ur_ret rfl rfl (hQ _ ⟨_, rfl, Or.inr ⟨by omega, by omega⟩⟩ )
  · have t5 := wi_toL c3 l_0 l_180
    refine ur_ldI rfl rfl ?_
    refine ur_push rfl ?_
    refine ur_push rfl ?_
    refine ur_callv rfl rfl (Nat.le_of_ble_eq_true rfl) (Nat.le_of_ble_eq_true rfl) rfl (sp_within _ _ _ _ _) ?_
    refine ur_neB rfl (fun c8 => ?_) (fun c8 => ?_)
    · have t9 := wi_toL c8 l_1 l_200
      refine ur_ldI rfl rfl ?_
      refine ur_ldI rfl rfl ?_
      refine ur_ldI rfl rfl ?_
      refine ur_inl rfl rfl (Nat.le_of_ble_eq_true rfl) (Nat.le_of_ble_eq_true rfl) (sd_X11_thousandthsNear hdn huv hcz hnf hO0 _ (by show 0 ≤ a1.toInt ∧ a1.toInt ≤ 180; omega) _ _ (by show 1 ≤ a3.toInt ∧ a3.toInt ≤ 200; omega) (fun w10 hr11 => ?_))
      obtain ⟨x12, rfl, f13⟩ := hr11
      show uRun _ (uCall Mt _) _ 30 (_, [(.inl x12)], _, _, _)
      exact ur_ret rfl rfl (hQ _ ⟨_, rfl, Or.inl ⟨by omega, f13⟩⟩ )
    · have t14 := wi_noL c8 l_1 l_200
      refine ur_push rfl ?_
      exact ur_ret rfl rfl (hQ _ ⟨_, rfl, Or.inr ⟨by omega, by omega⟩⟩ )
def dI (n : Int) : Int := (dN (Int32.ofInt n)).toInt
def uI (n : Int) : Int := uV (Int32.ofInt n)
theorem dI_of {n : Int} {f x1 x2 : Int32} (h : n = f.toInt) (e1 : f * 1103515245 = x1) (e2 : x1 + 12345 = x2) : dI n = x2.toInt := by
  subst e2 e1 h
  unfold dI
  rw [Int32.ofInt_toInt]
  rfl
theorem uI_of {n : Int} {f : Int32} (h : n = f.toInt) : uI n = uV f := by
  subst h
  unfold uI
  rw [Int32.ofInt_toInt]
theorem chz_0 {cz : Nat → Int32 → Int32} (hcz : cz = chz) (z : Int32) : (cz (iN 0) z).toInt = z.toInt := by rw [hcz]; rfl
theorem nr_t {di : Int → Int} (hdi : di = dI) {ui : Int → Int} (hui : ui = uI) {cz : Nat → Int32 → Int32} (hcz : cz = chz) {nf : Int → Nat → Int32 → Int} (hnf : nf = nr) {x f0 f1 f2 f3 f4 : Int} {i i' z0 : Int32} (hi : 0 ≤ i.toInt) (e : i'.toInt = i.toInt + 1) (h : f0 = (cz (iN i) z0).toInt) (h1 : f1 = di f0) (h2 : f2 = di f1) (h3 : f3 = di f2) (h4 : f4 = di f3) : f4 = (cz (iN i') z0).toInt ∧ (nrP x (ui f1 % 360 - ui f3 % 360) (ui f2 % 95 - ui f4 % 95) → nf x (iN i') z0 = nf x (iN i) z0 + 1) ∧ (¬ nrP x (ui f1 % 360 - ui f3 % 360) (ui f2 % 95 - ui f4 % 95) → nf x (iN i') z0 = nf x (iN i) z0) := by
  have g : ∀ {n : Int} {z : Int32}, n = z.toInt → di n = (dN z).toInt := fun h => by rw [hdi]; exact dI_of h rfl rfl
  have a1 := h1.trans (g h)
  have a2 := h2.trans (g a1)
  have a3 := h3.trans (g a2)
  have a4 := h4.trans (g a3)
  have k := nr_s (x := x) (z0 := z0) rfl rfl hcz hnf hi e rfl rfl rfl rfl rfl
  rw [hui, uI_of a1, uI_of a2, uI_of a3, uI_of a4]
  exact ⟨a4.trans (congrArg Int32.toInt k.1), k.2⟩
set_option maxRecDepth 20000 in
set_option maxHeartbeats 4000000 in
theorem sd_X12_apartOf {d kc ks : Nat} {h0 : aH} {Q : Option aV → aH → Prop} (hO0 : OK h0) (a0 : Int32) (b0 : -100000 ≤ a0.toInt ∧ a0.toInt ≤ 100000) (a1 : Int32) (b1 : -100000 ≤ a1.toInt ∧ a1.toInt ≤ 100000) (hQ : ∀ r, (∃ x : Int32, r = some (.inl x) ∧ (apP (a0.toInt - a1.toInt) x.toInt)) → Q r h0) : uCall Mt (d + 2) 186 [(.inl a0), (.inl a1)] h0 kc ks Q := by
  have l_180 : ((180) : Int32).toInt = 180 := by decide
  have l_360 : ((360) : Int32).toInt = 360 := by decide
  refine uc_ink [some (.inl a0), some (.inl a1), none] mt_186 (Nat.le_of_ble_eq_true rfl) rfl ?_
  refine ur_ldI rfl rfl ?_
  refine ur_ldI rfl rfl ?_
  refine ur_binV rfl (fun x1 e2 => ?_)
  have z3 := any_r a0
  have z4 := any_r a1
  have t5 := ti_sub e2 (by omega) (by omega)
  refine ur_inl rfl rfl (Nat.le_of_ble_eq_true rfl) (Nat.le_of_ble_eq_true rfl) (sf_X12_sizeOf _ (fun w6 hr7 => ?_))
  obtain ⟨x8, rfl, t9⟩ := hr7
  show uRun _ (uCall Mt _) _ 6 (_, [(.inl x8)], _, _, _)
  refine ur_push rfl ?_
  refine ur_divV rfl (by decide) (fun x10 e11 => ?_)
  have z12 := any_r x8
  have t13 : 0 ≤ x8.toInt → x10.toInt = x8.toInt % 360 := fun q => ti_rem e11 l_360 (by decide) q
  refine ur_svIk [some (.inl a0), some (.inl a1), some (.inl x10)] rfl rfl ?_
  refine ur_ldI rfl rfl ?_
  refine ur_push rfl ?_
  refine ur_if2 rfl (fun c14 => ?_) (fun c14 => ?_)
  · have t15 := le_to c14
    refine ur_ldI rfl rfl ?_
    exact ur_ret rfl rfl (hQ _ ⟨_, rfl, (by unfold apP; omega)⟩ )
  · have t16 := le_no c14
    refine ur_push rfl ?_
    refine ur_ldI rfl rfl ?_
    refine ur_binV rfl (fun x17 e18 => ?_)
    have z19 := any_r x10
    have t20 := ti_sub e18 (by omega) (by omega)
    refine ur_go rfl ?_
    exact ur_ret rfl rfl (hQ _ ⟨_, rfl, (by unfold apP; omega)⟩ )

set_option maxRecDepth 20000 in
set_option maxHeartbeats 4000000 in
theorem sd_X12_draw {d kc ks : Nat} {h0 : aH} {Q : Option aV → aH → Prop} {di : Int → Int} (hdi : di = dI) {ui : Int → Int} (hui : ui = uI) {cz : Nat → Int32 → Int32} (hcz : cz = chz) {nf : Int → Nat → Int32 → Int} (hnf : nf = nr) {uv : Int32 → Int} (huv : uv = uV) (hO0 : OK h0) (a1 : Int32) (b1 : 1 ≤ a1.toInt ∧ a1.toInt ≤ 360) (pre0 : a1.toInt = 360 ∨ a1.toInt = 95) (hQ : ∀ r h', (∃ x : Int32, r = some (.inl x) ∧ (fI h' 60 = di (fI h0 60) ∧ (a1.toInt = 360 → x.toInt = ui (fI h' 60) % 360) ∧ (a1.toInt = 95 → x.toInt = ui (fI h' 60) % 95) ∧ 0 ≤ x.toInt ∧ x.toInt ≤ 359 ∧ (a1.toInt = 95 → x.toInt ≤ 94))) → OK h' → un [] h0 h' → Q r h') : uCall Mt (d + 1) 272 [(.inr (.inr (some 69))), (.inl a1)] h0 kc ks Q := by
  have l_8 : ((8) : Int32).toInt = 8 := by decide
  have l_12345 : ((12345) : Int32).toInt = 12345 := by decide
  have l_1103515245 : ((1103515245) : Int32).toInt = 1103515245 := by decide
  refine uc_ink [some (.inr (.inr (some 69))), some (.inl a1)] mt_272 (Nat.le_of_ble_eq_true rfl) rfl ?_
  obtain ⟨fs1, hc2⟩ := hO0.mod
  obtain ⟨f3, p4⟩ := mf_60 hO0 hc2
  have t5 := fI_of hc2 p4
  refine ur_ldA rfl rfl ?_
  refine ur_ldA rfl rfl ?_
  refine ur_get rfl hc2 p4 ?_
  refine ur_push rfl ?_
  refine ur_binV rfl (fun x6 e7 => ?_)
  have z8 := any_r f3
  refine ur_push rfl ?_
  refine ur_binV rfl (fun x9 e10 => ?_)
  have z11 := any_r x6
  have t12 : di (fI h0 60) = x9.toInt := by rw [hdi]; exact dI_of (by omega) e7 e10
  refine ur_putM (W := []) rfl hO0 hc2 (by decide) rfl (ms_60 (hO0.msh hc2)) (Or.inl rfl) (fun h14 hO14 hu14 d13 hc15 => ?_)
  have t16 := fI_of hc15 (gs_eq p4)
  refine ur_ldA rfl rfl ?_
  refine ur_get rfl hc15 (gs_eq p4) ?_
  have t17 : ui (fI h14 60) = uv x9 := by rw [hui, huv]; exact uI_of (by omega)
  refine ur_push rfl ?_
  refine ur_binV rfl (fun x18 e19 => ?_)
  have t20 : x18.toInt = uv x9 := by rw [huv, ← e19]; rfl
  have t21 : 0 ≤ uv x9 ∧ uv x9 ≤ 16777215 := by rw [huv]; exact uV_r x9
  refine ur_ldI rfl rfl ?_
  refine ur_divV rfl (nz_of (by omega)) (fun x22 e23 => ?_)
  have z24 := any_r x18
  have z25 := any_r a1
  have t26 : a1.toInt = 360 → x22.toInt = x18.toInt % 360 := fun q => ti_rem e23 q (by decide) (by omega)
  have t27 : a1.toInt = 95 → x22.toInt = x18.toInt % 95 := fun q => ti_rem e23 q (by decide) (by omega)
  exact ur_ret rfl rfl (hQ _ _ ⟨_, rfl, by omega⟩ hO14 hu14)

set_option maxRecDepth 20000 in
set_option maxHeartbeats 4000000 in
theorem sd_X12_chance {d kc ks : Nat} {h0 : aH} {Q : Option aV → aH → Prop} {di : Int → Int} (hdi : di = dI) {ui : Int → Int} (hui : ui = uI) {cz : Nat → Int32 → Int32} (hcz : cz = chz) {nf : Int → Nat → Int32 → Int} (hnf : nf = nr) (hO0 : OK h0) (a1 : Int32) (a2 : Int32) (a3 : Int32) (hQ : ∀ r h', (∃ x : Int32, r = some (.inl x) ∧ (((0 ≤ a1.toInt ∧ a1.toInt ≤ 180) ∧ (1 ≤ a3.toInt ∧ a3.toInt ≤ 200)) ∧ (∃ q : Int32, q.toInt = nf a1.toInt (iN a3) a2 ∧ x = 1000 * q / a3) ∨ ¬ ((0 ≤ a1.toInt ∧ a1.toInt ≤ 180) ∧ (1 ≤ a3.toInt ∧ a3.toInt ≤ 200)) ∧ x.toInt = -1)) → OK h' → un [] h0 h' → Q r h') : uCall Mt (d + 3) 273 [(.inr (.inr (some 69))), (.inl a1), (.inl a2), (.inl a3)] h0 kc ks Q := by
  have l_m1 : ((-1) : Int32).toInt = -1 := by decide
  have l_0 : ((0) : Int32).toInt = 0 := by decide
  have l_1 : ((1) : Int32).toInt = 1 := by decide
  have l_5 : ((5) : Int32).toInt = 5 := by decide
  have l_95 : ((95) : Int32).toInt = 95 := by decide
  have l_180 : ((180) : Int32).toInt = 180 := by decide
  have l_200 : ((200) : Int32).toInt = 200 := by decide
  have l_360 : ((360) : Int32).toInt = 360 := by decide
  have l_1000 : ((1000) : Int32).toInt = 1000 := by decide
  refine uc_ink [some (.inr (.inr (some 69))), some (.inl a1), some (.inl a2), some (.inl a3), none, none, none, none, none, none] mt_273 (Nat.le_of_ble_eq_true rfl) rfl ?_
  obtain ⟨fs1, hc2⟩ := hO0.mod
  obtain ⟨f3, p4⟩ := mf_60 hO0 hc2
  have t5 := fI_of hc2 p4
  refine ur_ldI rfl rfl ?_
  refine ur_push rfl ?_
  refine ur_push rfl ?_
  refine ur_callv rfl rfl (Nat.le_of_ble_eq_true rfl) (Nat.le_of_ble_eq_true rfl) rfl (sp_in _ _ _ _ _) ?_
  refine ur_eqB rfl (fun c8 => ?_) (fun c8 => ?_)
  · have t9 := wi_noL c8 l_0 l_180
    refine ur_push rfl ?_
    exact ur_ret rfl rfl (hQ _ _ ⟨_, rfl, Or.inr ⟨by omega, by omega⟩⟩ hO0 un.rf)
  · have t10 := wi_toL c8 l_0 l_180
    refine ur_ldI rfl rfl ?_
    refine ur_push rfl ?_
    refine ur_push rfl ?_
    refine ur_callv rfl rfl (Nat.le_of_ble_eq_true rfl) (Nat.le_of_ble_eq_true rfl) rfl (sp_in _ _ _ _ _) ?_
    refine ur_neB rfl (fun c13 => ?_) (fun c13 => ?_)
    · have t14 := wi_toL c13 l_1 l_200
      refine ur_ldA rfl rfl ?_
      refine ur_ldI rfl rfl ?_
      refine ur_putM (W := []) rfl hO0 hc2 (by decide) rfl (ms_60 (hO0.msh hc2)) (Or.inl rfl) (fun h16 hO16 hu16 d15 hc17 => ?_)
      have t18 := fI_of hc17 (gs_eq p4)
      refine ur_push rfl ?_
      have t19 := nr_0 hnf a1.toInt a2
      have ch0 := chz_0 hcz a2
      refine ur_svIk [some (.inr (.inr (some 69))), some (.inl a1), some (.inl a2), some (.inl a3), some (.inl 0), none, none, none, none, none] rfl rfl ?_
      refine ur_push rfl ?_
      refine ur_svIk [some (.inr (.inr (some 69))), some (.inl a1), some (.inl a2), some (.inl a3), some (.inl 0), some (.inl 0), none, none, none, none] rfl rfl ?_
      have L26 : ∀ (m27 : Nat) (x20 : Int32) (x21 : Int32) (u22 : Option aV) (u23 : Option aV) (u24 : Option aV) (u25 : Option aV) (h29 : aH) , OK h29 → un [] h16 h29 → ((0 ≤ x21.toInt ∧ x21.toInt ≤ 200) ∧ (0 ≤ x20.toInt ∧ x20.toInt ≤ 200) ∧ x20.toInt ≤ x21.toInt ∧ x20.toInt = nf a1.toInt (iN x21) a2 ∧ x21.toInt ≤ a3.toInt ∧ fI h29 60 = (cz (iN x21) a2).toInt) → ((201 - x21.toInt).toNat) < m27 → uRun oX12_chance (uCall Mt (d + 2)) Q 35 ([some (.inr (.inr (some 69))), some (.inl a1), some (.inl a2), some (.inl a3), some (.inl x20), some (.inl x21), u22, u23, u24, u25], [], h29, kc, ks) := by
        intro m27
        induction m27 with
        | zero => intro x20 x21 u22 u23 u24 u25 h29 hO29 hu29 iv30 mm31; omega
        | succ m27 ih28 =>
          intro x20 x21 u22 u23 u24 u25 h29 hO29 hu29 iv30 mm31
          refine ur_ldI rfl rfl ?_
          refine ur_ldI rfl rfl ?_
          have z32 := any_r x21
          have z33 := any_r a3
          refine ur_if2 rfl (fun c34 => ?_) (fun c34 => ?_)
          · have t35 := le_to c34
            refine ur_push rfl ?_
            refine ur_ldI rfl rfl ?_
            refine ur_binV rfl (fun x36 e37 => ?_)
            have z38 := any_r x20
            have t39 := ti_mulR e37 l_1000 (by omega) (by omega)
            refine ur_ldI rfl rfl ?_
            refine ur_divV rfl (nz_of (by omega)) (fun x40 e41 => ?_)
            have z42 := any_r x36
            have t43 := ti_divP e41 (by omega) (by omega)
            obtain ⟨fs44, hc45⟩ := hO29.mod
            obtain ⟨f46, p47⟩ := mf_60 hO29 hc45
            have t48 := fI_of hc45 p47
            exact ur_ret rfl rfl (hQ _ _ ⟨_, rfl, Or.inl ⟨by omega, ⟨x20, by omega, by rw [← e41, ← e37]⟩⟩⟩ hO29 (hu16.tr hu29))
          · have t49 := le_no c34
            refine ur_ldA rfl rfl ?_
            refine ur_push rfl ?_
            obtain ⟨fs50, hc51⟩ := hO29.mod
            obtain ⟨f52, p53⟩ := mf_60 hO29 hc51
            have t54 := fI_of hc51 p53
            refine ur_inl rfl (rcv_of hc51) (Nat.le_of_ble_eq_true rfl) (Nat.le_of_ble_eq_true rfl) (sd_X12_draw hdi hui hcz hnf (rfl : uV = uV) hO29 _ (by show 1 ≤ (360 : Int32).toInt ∧ (360 : Int32).toInt ≤ 360; omega) (by omega) (fun w55 h57 hr56 hO57 hv57 => ?_))
            have hu57 := hv57
            obtain ⟨x58, rfl, t59⟩ := hr56
            show uRun _ (uCall Mt _) _ 48 (_, [(.inl x58)], _, _, _)
            refine ur_svIk [some (.inr (.inr (some 69))), some (.inl a1), some (.inl a2), some (.inl a3), some (.inl x20), some (.inl x21), some (.inl x58), u23, u24, u25] rfl rfl ?_
            refine ur_push rfl ?_
            refine ur_ldA rfl rfl ?_
            refine ur_push rfl ?_
            obtain ⟨fs60, hc61⟩ := hO57.mod
            obtain ⟨f62, p63⟩ := mf_60 hO57 hc61
            have t64 := fI_of hc61 p63
            refine ur_inl rfl (rcv_of hc61) (Nat.le_of_ble_eq_true rfl) (Nat.le_of_ble_eq_true rfl) (sd_X12_draw hdi hui hcz hnf (rfl : uV = uV) hO57 _ (by show 1 ≤ (95 : Int32).toInt ∧ (95 : Int32).toInt ≤ 360; omega) (by omega) (fun w65 h67 hr66 hO67 hv67 => ?_))
            have hu67 := hv67
            obtain ⟨x68, rfl, t69⟩ := hr66
            show uRun _ (uCall Mt _) _ 57 (_, [(.inl x68), (.inl 5)], _, _, _)
            refine ur_binV rfl (fun x70 e71 => ?_)
            have z72 := any_r x68
            have t73 := ti_add e71 (by omega) (by omega)
            refine ur_svIk [some (.inr (.inr (some 69))), some (.inl a1), some (.inl a2), some (.inl a3), some (.inl x20), some (.inl x21), some (.inl x58), some (.inl x70), u24, u25] rfl rfl ?_
            refine ur_ldA rfl rfl ?_
            refine ur_push rfl ?_
            obtain ⟨fs74, hc75⟩ := hO67.mod
            obtain ⟨f76, p77⟩ := mf_60 hO67 hc75
            have t78 := fI_of hc75 p77
            refine ur_inl rfl (rcv_of hc75) (Nat.le_of_ble_eq_true rfl) (Nat.le_of_ble_eq_true rfl) (sd_X12_draw hdi hui hcz hnf (rfl : uV = uV) hO67 _ (by show 1 ≤ (360 : Int32).toInt ∧ (360 : Int32).toInt ≤ 360; omega) (by omega) (fun w79 h81 hr80 hO81 hv81 => ?_))
            have hu81 := hv81
            obtain ⟨x82, rfl, t83⟩ := hr80
            show uRun _ (uCall Mt _) _ 67 (_, [(.inl x82)], _, _, _)
            refine ur_svIk [some (.inr (.inr (some 69))), some (.inl a1), some (.inl a2), some (.inl a3), some (.inl x20), some (.inl x21), some (.inl x58), some (.inl x70), some (.inl x82), u25] rfl rfl ?_
            refine ur_push rfl ?_
            refine ur_ldA rfl rfl ?_
            refine ur_push rfl ?_
            obtain ⟨fs84, hc85⟩ := hO81.mod
            obtain ⟨f86, p87⟩ := mf_60 hO81 hc85
            have t88 := fI_of hc85 p87
            refine ur_inl rfl (rcv_of hc85) (Nat.le_of_ble_eq_true rfl) (Nat.le_of_ble_eq_true rfl) (sd_X12_draw hdi hui hcz hnf (rfl : uV = uV) hO81 _ (by show 1 ≤ (95 : Int32).toInt ∧ (95 : Int32).toInt ≤ 360; omega) (by omega) (fun w89 h91 hr90 hO91 hv91 => ?_))
            have hu91 := hv91
            obtain ⟨x92, rfl, t93⟩ := hr90
            show uRun _ (uCall Mt _) _ 76 (_, [(.inl x92), (.inl 5)], _, _, _)
            refine ur_binV rfl (fun x94 e95 => ?_)
            have z96 := any_r x92
            have t97 := ti_add e95 (by omega) (by omega)
            refine ur_svIk [some (.inr (.inr (some 69))), some (.inl a1), some (.inl a2), some (.inl a3), some (.inl x20), some (.inl x21), some (.inl x58), some (.inl x70), some (.inl x82), some (.inl x94)] rfl rfl ?_
            refine ur_ldI rfl rfl ?_
            refine ur_ldI rfl rfl ?_
            refine ur_ldI rfl rfl ?_
            refine ur_inl rfl rfl (Nat.le_of_ble_eq_true rfl) (Nat.le_of_ble_eq_true rfl) (sd_X12_apartOf hO91 _ (by show -100000 ≤ x58.toInt ∧ x58.toInt ≤ 100000; omega) _ (by show -100000 ≤ x82.toInt ∧ x82.toInt ≤ 100000; omega) (fun w98 hr99 => ?_))
            obtain ⟨x100, rfl, f101⟩ := hr99
            show uRun _ (uCall Mt _) _ 88 (_, [(.inl x100), (.inl x20)], _, _, _)
            refine ur_ldI rfl rfl ?_
            have z102 := any_r x100
            have z103 := any_r a1
            refine ur_if2 rfl (fun c104 => ?_) (fun c104 => ?_)
            · have t105 := lt_to c104
              have t106 := nr_noA (x := a1.toInt) (n := (x58.toInt - x82.toInt)) (q := (x70.toInt - x94.toInt)) (a := x100.toInt) (by omega) f101 (by omega) (by omega)
              refine ur_push rfl ?_
              refine ur_binV rfl (fun x107 e108 => ?_)
              have z109 := any_r x20
              have t110 := ti_add e108 (by omega) (by omega)
              refine ur_svIk [some (.inr (.inr (some 69))), some (.inl a1), some (.inl a2), some (.inl a3), some (.inl x107), some (.inl x21), some (.inl x58), some (.inl x70), some (.inl x82), some (.inl x94)] rfl rfl ?_
              refine ur_incV (fun z => [some (.inr (.inr (some 69))), some (.inl a1), some (.inl a2), some (.inl a3), some (.inl x107), some (.inl z), some (.inl x58), some (.inl x70), some (.inl x82), some (.inl x94)]) rfl rfl (fun _ => rfl) (fun x111 e112 => ?_)
              have t113 := ti_add e112 (by omega) (by omega)
              have t114 := nr_t hdi hui hcz hnf (x := a1.toInt) (f0 := fI h29 60) (f1 := fI h57 60) (f2 := fI h67 60) (f3 := fI h81 60) (f4 := fI h91 60) (i := x21) (i' := x111) (z0 := a2) (by omega) (by omega) (by omega) (by omega) (by omega) (by omega) (by omega)
              have t115 := t114.2.2 (nrN_c (by omega) (by omega) t106)
              refine ur_go rfl ?_
              obtain ⟨fs116, hc117⟩ := hO91.mod
              obtain ⟨f118, p119⟩ := mf_60 hO91 hc117
              have t120 := fI_of hc117 p119
              have z121 := any_r x107
              have z122 := any_r x111
              exact ih28 x107 x111 _ _ _ _ _ hO91 (hu29.tr (hu57.tr (hu67.tr (hu81.tr hu91)))) (by omega) (by omega)
            · have t123 := lt_no c104
              refine ur_ldI rfl rfl ?_
              refine ur_ldI rfl rfl ?_
              refine ur_binV rfl (fun x124 e125 => ?_)
              have z126 := any_r x70
              have z127 := any_r x94
              have t128 := ti_sub e125 (by omega) (by omega)
              refine ur_inl rfl rfl (Nat.le_of_ble_eq_true rfl) (Nat.le_of_ble_eq_true rfl) (sf_X12_sizeOf _ (fun w129 hr130 => ?_))
              obtain ⟨x131, rfl, t132⟩ := hr130
              show uRun _ (uCall Mt _) _ 100 (_, [(.inl x131), (.inl x20)], _, _, _)
              refine ur_ldI rfl rfl ?_
              have z133 := any_r x131
              refine ur_if2 rfl (fun c134 => ?_) (fun c134 => ?_)
              · have t135 := lt_to c134
                have t136 := nr_noB (x := a1.toInt) (n := (x58.toInt - x82.toInt)) (q := (x70.toInt - x94.toInt)) (b := x131.toInt) (by omega) (by omega)
                refine ur_push rfl ?_
                refine ur_binV rfl (fun x137 e138 => ?_)
                have z139 := any_r x20
                have t140 := ti_add e138 (by omega) (by omega)
                refine ur_svIk [some (.inr (.inr (some 69))), some (.inl a1), some (.inl a2), some (.inl a3), some (.inl x137), some (.inl x21), some (.inl x58), some (.inl x70), some (.inl x82), some (.inl x94)] rfl rfl ?_
                refine ur_incV (fun z => [some (.inr (.inr (some 69))), some (.inl a1), some (.inl a2), some (.inl a3), some (.inl x137), some (.inl z), some (.inl x58), some (.inl x70), some (.inl x82), some (.inl x94)]) rfl rfl (fun _ => rfl) (fun x141 e142 => ?_)
                have t143 := ti_add e142 (by omega) (by omega)
                have t144 := nr_t hdi hui hcz hnf (x := a1.toInt) (f0 := fI h29 60) (f1 := fI h57 60) (f2 := fI h67 60) (f3 := fI h81 60) (f4 := fI h91 60) (i := x21) (i' := x141) (z0 := a2) (by omega) (by omega) (by omega) (by omega) (by omega) (by omega) (by omega)
                have t145 := t144.2.2 (nrN_c (by omega) (by omega) t136)
                refine ur_go rfl ?_
                obtain ⟨fs146, hc147⟩ := hO91.mod
                obtain ⟨f148, p149⟩ := mf_60 hO91 hc147
                have t150 := fI_of hc147 p149
                have z151 := any_r x137
                have z152 := any_r x141
                exact ih28 x137 x141 _ _ _ _ _ hO91 (hu29.tr (hu57.tr (hu67.tr (hu81.tr hu91)))) (by omega) (by omega)
              · have t153 := lt_no c134
                have t154 := nr_yes (x := a1.toInt) (n := (x58.toInt - x82.toInt)) (q := (x70.toInt - x94.toInt)) (a := x100.toInt) (b := x131.toInt) (by omega) f101 (by omega) (by omega) (by omega) (by omega)
                refine ur_push rfl ?_
                refine ur_go rfl ?_
                refine ur_binV rfl (fun x155 e156 => ?_)
                have z157 := any_r x20
                have t158 := ti_add e156 (by omega) (by omega)
                refine ur_svIk [some (.inr (.inr (some 69))), some (.inl a1), some (.inl a2), some (.inl a3), some (.inl x155), some (.inl x21), some (.inl x58), some (.inl x70), some (.inl x82), some (.inl x94)] rfl rfl ?_
                refine ur_incV (fun z => [some (.inr (.inr (some 69))), some (.inl a1), some (.inl a2), some (.inl a3), some (.inl x155), some (.inl z), some (.inl x58), some (.inl x70), some (.inl x82), some (.inl x94)]) rfl rfl (fun _ => rfl) (fun x159 e160 => ?_)
                have t161 := ti_add e160 (by omega) (by omega)
                have t162 := nr_t hdi hui hcz hnf (x := a1.toInt) (f0 := fI h29 60) (f1 := fI h57 60) (f2 := fI h67 60) (f3 := fI h81 60) (f4 := fI h91 60) (i := x21) (i' := x159) (z0 := a2) (by omega) (by omega) (by omega) (by omega) (by omega) (by omega) (by omega)
                have t163 := t162.2.1 (nrP_c (by omega) (by omega) t154)
                refine ur_go rfl ?_
                obtain ⟨fs164, hc165⟩ := hO91.mod
                obtain ⟨f166, p167⟩ := mf_60 hO91 hc165
                have t168 := fI_of hc165 p167
                have z169 := any_r x155
                have z170 := any_r x159
                exact ih28 x155 x159 _ _ _ _ _ hO91 (hu29.tr (hu57.tr (hu67.tr (hu81.tr hu91)))) (by omega) (by omega)
      exact L26 _ 0 0 (none) (none) (none) (none) _ hO16 un.rf (by omega) (Nat.lt_succ_self _)
    · have t171 := wi_noL c13 l_1 l_200
      refine ur_push rfl ?_
      exact ur_ret rfl rfl (hQ _ _ ⟨_, rfl, Or.inr ⟨by omega, by omega⟩⟩ hO0 un.rf)
theorem ch_eq {nf : Int → Nat → Int32 → Int} {a1 a2 a3 x y : Int32} (hx : ((0 ≤ a1.toInt ∧ a1.toInt ≤ 180) ∧ (1 ≤ a3.toInt ∧ a3.toInt ≤ 200)) ∧ (∃ q : Int32, q.toInt = nf a1.toInt (iN a3) a2 ∧ x = 1000 * q / a3) ∨ ¬ ((0 ≤ a1.toInt ∧ a1.toInt ≤ 180) ∧ (1 ≤ a3.toInt ∧ a3.toInt ≤ 200)) ∧ x.toInt = -1) (hy : ((0 ≤ a1.toInt ∧ a1.toInt ≤ 180) ∧ (1 ≤ a3.toInt ∧ a3.toInt ≤ 200)) ∧ (∃ q : Int32, q.toInt = nf a1.toInt (iN a3) a2 ∧ y = 1000 * q / a3) ∨ ¬ ((0 ≤ a1.toInt ∧ a1.toInt ≤ 180) ∧ (1 ≤ a3.toInt ∧ a3.toInt ≤ 200)) ∧ y.toInt = -1) : x = y := by
  rcases hx with ⟨h, q, h1, rfl⟩ | ⟨h, h1⟩
  · rcases hy with ⟨_, p, h2, rfl⟩ | ⟨g, _⟩
    · rw [show q = p from Int32.toInt_inj.mp (h1.trans h2.symm)]
    · exact absurd h g
  · rcases hy with ⟨g, _⟩ | ⟨_, h2⟩
    · exact absurd g h
    · exact Int32.toInt_inj.mp (h1.trans h2.symm)
end CHN
