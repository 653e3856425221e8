/-! CHANCE: both loops work out one number -/
section P1H
def dz (z : Int32) : Int32 := z * 1103515245 + 12345
def ush8 (z : Int32) : Int32 := (z.toUInt32 >>> ((8 : Int32).toUInt32 &&& Int32.toUInt32 31)).toInt32
def rm32 (x m : Int32) : Int32 := x - x / m * m
def nn (z : Int32) : Int32 := rm32 (ush8 z) 360
def rr (z : Int32) : Int32 := 5 + rm32 (ush8 z) 95
def ab (x : Int32) : Int32 := if 0 ≤ x then x else 0 - x
def ap (n : Int32) : Int32 := if 360 - rm32 (ab n) 360 < rm32 (ab n) 360 then 360 - rm32 (ab n) 360 else rm32 (ab n) 360
def nr (nodes reaches x : Int32) : Bool := decide (ap nodes ≤ x) && decide (ab reaches ≤ x)
def chS (x z near : Int32) : Int32 := if nr (nn (dz z) - nn (dz (dz (dz z)))) (rr (dz (dz z)) - rr (dz (dz (dz (dz z))))) x = true then near + 1 else near
def chN (x : Int32) : Nat → Int32 → Int32 → Int32
  | 0, _, near => near
  | k + 1, z, near => chN x k (dz (dz (dz (dz z)))) (chS x z near)
theorem rm_rng (x : Int32) : -360 < (rm32 x 360).toInt ∧ (rm32 x 360).toInt < 360 := by
  unfold rm32
  have h1 : ((360 : Int32)).toInt = 360 := by decide
  have h3 := Int32.le_toInt x
  have h4 := Int32.toInt_lt x
  rw [Int32.toInt_sub, Int32.toInt_mul, Int32.toInt_div, h1]
  have e := Int.mul_tdiv_add_tmod x.toInt 360
  have l1 : x.toInt.tmod 360 < 360 := Int.tmod_lt_of_pos _ (by decide)
  have l2 : -360 < x.toInt.tmod 360 := by
    have := Int.lt_tmod_of_pos x.toInt (b := 360) (by decide)
    omega
  generalize x.toInt.tdiv 360 = q at *
  generalize x.toInt.tmod 360 = r at *
  generalize x.toInt = a at *
  have b1 : q.bmod (2 ^ 32) = q := by
    unfold Int.bmod
    simp only []
    split <;> omega
  rw [b1]
  unfold Int.bmod
  simp only []
  split <;> split <;> omega
theorem min_360 {s : Int32} (hs : -360 < s.toInt ∧ s.toInt < 360) : (if 360 - s < s then 360 - s else s) = if s ≤ 180 then s else 360 - s := by
  have h : (360 - s < s) ↔ ¬ (s ≤ 180) := by
    rw [Int32.lt_iff_toInt_lt, Int32.le_iff_toInt_le, Int32.toInt_sub]
    have h1 : ((360 : Int32)).toInt = 360 := by decide
    have h2 : ((180 : Int32)).toInt = 180 := by decide
    rw [h1, h2]
    unfold Int.bmod
    simp only []
    split <;> omega
  by_cases q : s ≤ 180
  · rw [if_neg (fun z => h.mp z q), if_pos q]
  · rw [if_pos (h.mpr q), if_neg q]
theorem rm_0 (z : Int32) (m : Int32) : rm32 z m = z - z / m * m := rfl
variable {d : Nat} {h : aH}
theorem sp_drawn (z : Int32) : aCall Mt (d + 1) 169 [.inl z] h 0 0 (fun r h' => r = some (.inl (dz z)) ∧ h' = h) := by
  refine ac_ink [some (.inl _)] mt_169 (Nat.le_of_ble_eq_true rfl) rfl ?_
  refine ar_ldI rfl rfl ?_
  refine ar_push rfl ?_
  refine ar_bin rfl ?_
  refine ar_push rfl ?_
  refine ar_bin rfl ?_
  refine ar_ret rfl rfl ?_
  exact ⟨rfl, rfl⟩
theorem sp_dnode (z : Int32) : aCall Mt (d + 1) 170 [.inl z] h 0 0 (fun r h' => r = some (.inl (nn z)) ∧ h' = h) := by
  refine ac_ink [some (.inl _)] mt_170 (Nat.le_of_ble_eq_true rfl) rfl ?_
  refine ar_ldI rfl rfl ?_
  refine ar_push rfl ?_
  refine ar_bin rfl ?_
  refine ar_push rfl ?_
  refine ar_div rfl (by decide) ?_
  refine ar_ret rfl rfl ?_
  exact ⟨rfl, rfl⟩
theorem sp_dreach (z : Int32) : aCall Mt (d + 1) 171 [.inl z] h 0 0 (fun r h' => r = some (.inl (rr z)) ∧ h' = h) := by
  refine ac_ink [some (.inl _)] mt_171 (Nat.le_of_ble_eq_true rfl) rfl ?_
  refine ar_push rfl ?_
  refine ar_ldI rfl rfl ?_
  refine ar_push rfl ?_
  refine ar_bin rfl ?_
  refine ar_push rfl ?_
  refine ar_div rfl (by decide) ?_
  refine ar_bin rfl ?_
  refine ar_ret rfl rfl ?_
  exact ⟨rfl, rfl⟩
theorem sp_apart (a b : Int32) : aCall Mt (d + 1) 179 [.inl a, .inl b] h 0 0 (fun r h' => r = some (.inl (ap (a - b))) ∧ h' = h) := by
  refine ac_ink [some (.inl _), some (.inl _), none] mt_179 (Nat.le_of_ble_eq_true rfl) rfl ?_
  refine ar_ldI rfl rfl ?_
  refine ar_ldI rfl rfl ?_
  refine ar_bin rfl ?_
  refine ar_abs rfl (by simp) ?_
  refine ar_push rfl ?_
  refine ar_div rfl (by decide) ?_
  refine ar_svIk [some (.inl _), some (.inl _), some (.inl _)] rfl rfl ?_
  refine ar_ldI rfl rfl ?_
  refine ar_push rfl ?_
  refine ar_ldI rfl rfl ?_
  refine ar_bin rfl ?_
  refine ar_min rfl (by simp) ?_
  refine ar_ret rfl rfl ?_
  exact ⟨rfl, rfl⟩
theorem sp_isNear (a b x : Int32) : aCall Mt (d + 2) 172 [.inl a, .inl b, .inl x] h 0 0 (fun r h' => r = some (.inl (bi (nr a b x))) ∧ h' = h) := by
  refine ac_ink [some (.inl _), some (.inl _), some (.inl _)] mt_172 (Nat.le_of_ble_eq_true rfl) rfl ?_
  refine ar_ldI rfl rfl ?_
  refine ar_push rfl ?_
  refine ar_callv rfl rfl (Nat.le_of_ble_eq_true rfl) (Nat.le_of_ble_eq_true rfl) rfl (sp_apart _ _) ?_
  rw [show a - 0 = a from Int32.sub_zero a]
  refine ar_ldI rfl rfl ?_
  refine ar_if2 rfl (fun c1 => ?_) (fun c1 => ?_)
  · refine ar_push rfl ?_
    refine ar_ret rfl rfl ?_
    refine ⟨?_, rfl⟩
    unfold nr
    rw [lt_t c1]
    rfl
  · refine ar_ldI rfl rfl ?_
    refine ar_abs rfl (by simp) ?_
    refine ar_ldI rfl rfl ?_
    refine ar_if2 rfl (fun c2 => ?_) (fun c2 => ?_)
    · refine ar_push rfl ?_
      refine ar_ret rfl rfl ?_
      refine ⟨?_, rfl⟩
      have c2' : decide (ab b ≤ x) = false := lt_t c2
      unfold nr
      rw [c2', Bool.and_false]
      rfl
    · refine ar_push rfl ?_
      refine ar_go rfl ?_
      refine ar_ret rfl rfl ?_
      refine ⟨?_, rfl⟩
      have c2' : decide (ab b ≤ x) = true := lt_f c2
      have c1' : decide (ap a ≤ x) = true := lt_f c1
      unfold nr
      rw [c1', c2']
      rfl
variable {Q : Option aV → aH → Prop} {kc ks : Nat}
/-- the class's loop -/
theorem ch_cls (x sd : Int32) (N : Nat) (hN : N ≤ 200) (h0 : 0 < N) : ∀ (k j : Nat) (z near : Int32) (t6 t7 t8 : Option aV), j + k = N → Q (some (.inl (1000 * chN x k z near / nI N))) h → aRun oX11_thousandthsNear (aCall Mt (d + 2)) Q 14 ([some (.inl x), some (.inl sd), some (.inl (nI N)), some (.inl z), some (.inl near), some (.inl (nI j)), t6, t7, t8], [], h, kc, ks)
  | 0, j, z, near, t6, t7, t8, hj, hq => by
    have hjN : j = N := by omega
    subst hjN
    refine ar_ldI rfl rfl ?_
    refine ar_ldI rfl rfl ?_
    refine ar_if2t rfl (decide_eq_true (nI_le (Nat.le_refl _) (by omega))) ?_
    refine ar_push rfl ?_
    refine ar_ldI rfl rfl ?_
    refine ar_bin rfl ?_
    refine ar_ldI rfl rfl ?_
    refine ar_div rfl (nI_ne0 h0 (by omega)) ?_
    exact ar_ret rfl rfl hq
  | k + 1, j, z, near, t6, t7, t8, hj, hq => by
    refine ar_ldI rfl rfl ?_
    refine ar_ldI rfl rfl ?_
    refine ar_if2f rfl (decide_eq_false (nI_ge (by omega) (by omega))) ?_
    refine ar_ldI rfl rfl ?_
    refine ar_callv rfl rfl (Nat.le_of_ble_eq_true rfl) (Nat.le_of_ble_eq_true rfl) rfl (sp_drawn _) ?_
    refine ar_svIk [_, _, _, some (.inl _), _, _, _, _, _] rfl rfl ?_
    refine ar_ldI rfl rfl ?_
    refine ar_callv rfl rfl (Nat.le_of_ble_eq_true rfl) (Nat.le_of_ble_eq_true rfl) rfl (sp_dnode _) ?_
    refine ar_svIk [_, _, _, _, _, _, some (.inl _), _, _] rfl rfl ?_
    refine ar_ldI rfl rfl ?_
    refine ar_callv rfl rfl (Nat.le_of_ble_eq_true rfl) (Nat.le_of_ble_eq_true rfl) rfl (sp_drawn _) ?_
    refine ar_svIk [_, _, _, some (.inl _), _, _, _, _, _] rfl rfl ?_
    refine ar_ldI rfl rfl ?_
    refine ar_callv rfl rfl (Nat.le_of_ble_eq_true rfl) (Nat.le_of_ble_eq_true rfl) rfl (sp_dreach _) ?_
    refine ar_svIk [_, _, _, _, _, _, _, some (.inl _), _] rfl rfl ?_
    refine ar_ldI rfl rfl ?_
    refine ar_callv rfl rfl (Nat.le_of_ble_eq_true rfl) (Nat.le_of_ble_eq_true rfl) rfl (sp_drawn _) ?_
    refine ar_svIk [_, _, _, some (.inl _), _, _, _, _, _] rfl rfl ?_
    refine ar_ldI rfl rfl ?_
    refine ar_callv rfl rfl (Nat.le_of_ble_eq_true rfl) (Nat.le_of_ble_eq_true rfl) rfl (sp_dnode _) ?_
    refine ar_svIk [_, _, _, _, _, _, _, _, some (.inl _)] rfl rfl ?_
    refine ar_ldI rfl rfl ?_
    refine ar_callv rfl rfl (Nat.le_of_ble_eq_true rfl) (Nat.le_of_ble_eq_true rfl) rfl (sp_drawn _) ?_
    refine ar_svIk [_, _, _, some (.inl _), _, _, _, _, _] rfl rfl ?_
    refine ar_ldI rfl rfl ?_
    refine ar_ldI rfl rfl ?_
    refine ar_bin rfl ?_
    refine ar_ldI rfl rfl ?_
    refine ar_ldI rfl rfl ?_
    refine ar_callv rfl rfl (Nat.le_of_ble_eq_true rfl) (Nat.le_of_ble_eq_true rfl) rfl (sp_dreach _) ?_
    refine ar_bin rfl ?_
    refine ar_ldI rfl rfl ?_
    refine ar_callv rfl rfl (Nat.le_of_ble_eq_true rfl) (Nat.le_of_ble_eq_true rfl) rfl (sp_isNear _ _ _) ?_
    have hq1 : Q (some (.inl (1000 * chN x k (dz (dz (dz (dz z)))) (chS x z near) / nI N))) h := hq
    cases hb : nr (nn (dz z) - nn (dz (dz (dz z)))) (rr (dz (dz z)) - rr (dz (dz (dz (dz z))))) x with
    | true =>
      rw [show chS x z near = near + 1 from if_pos hb] at hq1
      refine ar_if1f rfl rfl ?_
      refine ar_incl [_, _, _, _, some (.inl _), _, _, _, _] rfl rfl rfl rfl ?_
      refine ar_incl (z := nI (j + 1)) [_, _, _, _, _, some (.inl _), _, _, _] rfl rfl (nI_1 j) rfl ?_
      refine ar_go rfl ?_
      exact ch_cls x sd N hN h0 k (j + 1) _ _ _ _ _ (by omega) hq1
    | false =>
      rw [show chS x z near = near from if_neg (by rw [hb]; decide)] at hq1
      refine ar_if1t rfl rfl ?_
      refine ar_incl (z := nI (j + 1)) [_, _, _, _, _, some (.inl _), _, _, _] rfl rfl (nI_1 j) rfl ?_
      refine ar_go rfl ?_
      exact ch_cls x sd N hN h0 k (j + 1) _ _ _ _ _ (by omega) hq1
theorem sp_size (v : Int32) : aCall Mt (d + 1) 185 [.inl v] h 0 0 (fun r h' => r = some (.inl (ab v)) ∧ h' = h) := by
  refine ac_ink [some (.inl _)] mt_185 (Nat.le_of_ble_eq_true rfl) rfl ?_
  refine ar_ldI rfl rfl ?_
  refine ar_if1 rfl (fun c1 => ?_) (fun c1 => ?_)
  · refine ar_ldI rfl rfl ?_
    refine ar_ret rfl rfl ?_
    refine ⟨?_, rfl⟩
    unfold ab
    rw [if_pos (of_decide_eq_true c1)]
  · refine ar_ldI rfl rfl ?_
    refine ar_un rfl ?_
    refine ar_go rfl ?_
    refine ar_ret rfl rfl ?_
    refine ⟨?_, rfl⟩
    unfold ab
    rw [if_neg (of_decide_eq_false c1), Int32.zero_sub]
theorem sp_apOf (a b : Int32) : aCall Mt (d + 2) 186 [.inl a, .inl b] h 0 0 (fun r h' => r = some (.inl (ap (a - b))) ∧ h' = h) := by
  refine ac_ink [some (.inl _), some (.inl _), none] mt_186 (Nat.le_of_ble_eq_true rfl) rfl ?_
  refine ar_ldI rfl rfl ?_
  refine ar_ldI rfl rfl ?_
  refine ar_bin rfl ?_
  refine ar_callv rfl rfl (Nat.le_of_ble_eq_true rfl) (Nat.le_of_ble_eq_true rfl) rfl (sp_size _) ?_
  refine ar_push rfl ?_
  refine ar_div rfl (by decide) ?_
  refine ar_svIk [some (.inl _), some (.inl _), some (.inl (rm32 (ab (a - b)) 360))] rfl rfl ?_
  have hm := min_360 (rm_rng (ab (a - b)))
  refine ar_ldI rfl rfl ?_
  refine ar_push rfl ?_
  refine ar_if2 rfl (fun c1 => ?_) (fun c1 => ?_)
  · refine ar_ldI rfl rfl ?_
    refine ar_ret rfl rfl ?_
    refine ⟨?_, rfl⟩
    unfold ap
    rw [hm, if_pos (of_decide_eq_true c1)]
  · refine ar_push rfl ?_
    refine ar_ldI rfl rfl ?_
    refine ar_bin rfl ?_
    refine ar_go rfl ?_
    refine ar_ret rfl rfl ?_
    refine ⟨?_, rfl⟩
    unfold ap
    rw [hm, if_neg (of_decide_eq_false c1)]
/-- the reference's cell with its number drawn -/
def drw (h : aH) (z : Int32) : Prop := ∃ fs : List aV, h[69]? = some (.inl (12, fs)) ∧ fs[60]? = some (.inl z)
theorem drw.set {h : aH} {fs : List aV} {z w : Int32} (h1 : h[69]? = some (.inl (12, fs))) (h2 : fs[60]? = some (.inl z)) : drw (h.set 69 (.inl (12, fs.set 60 (.inl w)))) w := ⟨_, hs_eq h1, by rw [List.getElem?_set_self (List.getElem?_eq_some_iff.mp h2).1]⟩
theorem sp_draw {z m : Int32} (hm : ¬ m = 0) (hz : drw h z) : aCall Mt (d + 1) 272 [.inr (.inr (some 69)), .inl m] h 0 0 (fun r h' => r = some (.inl (rm32 (ush8 (dz z)) m)) ∧ drw h' (dz z)) := by
  obtain ⟨fs, h1, h2⟩ := hz
  refine ac_ink [some (.inr (.inr (some 69))), some (.inl _)] mt_272 (Nat.le_of_ble_eq_true rfl) rfl ?_
  refine ar_ldA rfl rfl ?_
  refine ar_ldA rfl rfl ?_
  refine ar_get rfl h1 h2 ?_
  refine ar_push rfl ?_
  refine ar_bin rfl ?_
  refine ar_push rfl ?_
  refine ar_bin rfl ?_
  refine ar_put rfl h1 (List.getElem?_eq_some_iff.mp h2).1 rfl ?_
  refine ar_ldA rfl rfl ?_
  refine ar_get rfl (hs_eq h1) (by rw [List.getElem?_set_self (List.getElem?_eq_some_iff.mp h2).1]) ?_
  refine ar_push rfl ?_
  refine ar_bin rfl ?_
  refine ar_ldI rfl rfl ?_
  refine ar_div rfl hm ?_
  refine ar_ret rfl rfl ?_
  exact ⟨rfl, drw.set h1 h2⟩
theorem drw.rcv {h : aH} {z : Int32} {vs : List aV} (hz : drw h z) : aRcv 13 h (.inr (.inr (some 69)) :: vs) = true := by
  obtain ⟨fs, h1, -⟩ := hz
  exact rcv_of h1
/-- the reference's loop -/
theorem ch_ref (x sd : Int32) (N : Nat) (hN : N ≤ 200) (h0 : 0 < N) (hall : ∀ res, (∀ h', Q (some (.inl res)) h') ∨ True) : ∀ (k j : Nat) (z near : Int32) (t6 t7 t8 t9 : Option aV) (h : aH), drw h z → j + k = N → (∀ h', Q (some (.inl (1000 * chN x k z near / nI N))) h') → aRun oX12_chance (aCall Mt (d + 2)) Q 35 ([some (.inr (.inr (some 69))), some (.inl x), some (.inl sd), some (.inl (nI N)), some (.inl near), some (.inl (nI j)), t6, t7, t8, t9], [], h, kc, ks)
  | 0, j, z, near, t6, t7, t8, t9, h, hz, hj, hq => by
    have hjN : j = N := by omega
    subst hjN
    refine ar_ldI rfl rfl ?_
    refine ar_ldI rfl rfl ?_
    refine ar_if2t rfl (decide_eq_true (nI_le (Nat.le_refl _) (by omega))) ?_
    refine ar_push rfl ?_
    refine ar_ldI rfl rfl ?_
    refine ar_bin rfl ?_
    refine ar_ldI rfl rfl ?_
    refine ar_div rfl (nI_ne0 h0 (by omega)) ?_
    exact ar_ret rfl rfl (hq _)
  | k + 1, j, z, near, t6, t7, t8, t9, h, hz, hj, hq => by
    refine ar_ldI rfl rfl ?_
    refine ar_ldI rfl rfl ?_
    refine ar_if2f rfl (decide_eq_false (nI_ge (by omega) (by omega))) ?_
    refine ar_ldA rfl rfl ?_
    refine ar_push rfl ?_
    refine ar_call rfl rfl (Nat.le_of_ble_eq_true rfl) (Nat.le_of_ble_eq_true rfl) hz.rcv (Nat.zero_le _) (Nat.zero_le _) (sp_draw (by decide) hz) (fun v h1 q1 => ?_)
    obtain ⟨rfl, hz1⟩ := q1
    refine ar_svIk [_, _, _, _, _, _, some (.inl _), _, _, _] rfl rfl ?_
    refine ar_push rfl ?_
    refine ar_ldA rfl rfl ?_
    refine ar_push rfl ?_
    refine ar_call rfl rfl (Nat.le_of_ble_eq_true rfl) (Nat.le_of_ble_eq_true rfl) hz1.rcv (Nat.zero_le _) (Nat.zero_le _) (sp_draw (by decide) hz1) (fun v h2 q2 => ?_)
    obtain ⟨rfl, hz2⟩ := q2
    refine ar_bin rfl ?_
    refine ar_svIk [_, _, _, _, _, _, _, some (.inl _), _, _] rfl rfl ?_
    refine ar_ldA rfl rfl ?_
    refine ar_push rfl ?_
    refine ar_call rfl rfl (Nat.le_of_ble_eq_true rfl) (Nat.le_of_ble_eq_true rfl) hz2.rcv (Nat.zero_le _) (Nat.zero_le _) (sp_draw (by decide) hz2) (fun v h3 q3 => ?_)
    obtain ⟨rfl, hz3⟩ := q3
    refine ar_svIk [_, _, _, _, _, _, _, _, some (.inl _), _] rfl rfl ?_
    refine ar_push rfl ?_
    refine ar_ldA rfl rfl ?_
    refine ar_push rfl ?_
    refine ar_call rfl rfl (Nat.le_of_ble_eq_true rfl) (Nat.le_of_ble_eq_true rfl) hz3.rcv (Nat.zero_le _) (Nat.zero_le _) (sp_draw (by decide) hz3) (fun v h4 q4 => ?_)
    obtain ⟨rfl, hz4⟩ := q4
    refine ar_bin rfl ?_
    refine ar_svIk [_, _, _, _, _, _, _, _, _, some (.inl _)] rfl rfl ?_
    refine ar_ldI rfl rfl ?_
    refine ar_ldI rfl rfl ?_
    refine ar_ldI rfl rfl ?_
    refine ar_callv rfl rfl (Nat.le_of_ble_eq_true rfl) (Nat.le_of_ble_eq_true rfl) rfl (sp_apOf _ _) ?_
    refine ar_ldI rfl rfl ?_
    have hq1 : ∀ h', Q (some (.inl (1000 * chN x k (dz (dz (dz (dz z)))) (chS x z near) / nI N))) h' := hq
    have fin : ∀ w : Int32, near + w = chS x z near → aRun oX12_chance (aCall Mt (d + 2)) Q 109 ([some (.inr (.inr (some 69))), some (.inl x), some (.inl sd), some (.inl (nI N)), some (.inl near), some (.inl (nI j)), some (.inl (nn (dz z))), some (.inl (rr (dz (dz z)))), some (.inl (nn (dz (dz (dz z))))), some (.inl (rr (dz (dz (dz (dz z))))))], [.inl w, .inl near], h4, kc - 0 - 0 - 0 - 0, ks - 0 - 0 - 0 - 0) := fun w hw => by
      refine ar_bink rfl hw ?_
      refine ar_svIk [_, _, _, _, some (.inl _), _, _, _, _, _] rfl rfl ?_
      refine ar_incl (z := nI (j + 1)) [_, _, _, _, _, some (.inl _), _, _, _, _] rfl rfl (nI_1 j) rfl ?_
      refine ar_go rfl ?_
      exact ch_ref x sd N hN h0 hall k (j + 1) _ _ _ _ _ _ h4 hz4 (by omega) hq1
    refine ar_if2 rfl (fun c1 => ?_) (fun c1 => ?_)
    · refine ar_push rfl ?_
      refine fin 0 ?_
      rw [Int32.add_zero]
      have c1' : decide (ap (nn (dz z) - nn (dz (dz (dz z)))) ≤ x) = false := lt_t c1
      unfold chS nr
      rw [c1']
      rfl
    · refine ar_ldI rfl rfl ?_
      refine ar_ldI rfl rfl ?_
      refine ar_bin rfl ?_
      refine ar_callv rfl rfl (Nat.le_of_ble_eq_true rfl) (Nat.le_of_ble_eq_true rfl) rfl (sp_size _) ?_
      refine ar_ldI rfl rfl ?_
      have c1' : decide (ap (nn (dz z) - nn (dz (dz (dz z)))) ≤ x) = true := lt_f c1
      refine ar_if2 rfl (fun c2 => ?_) (fun c2 => ?_)
      · refine ar_push rfl ?_
        refine fin 0 ?_
        rw [Int32.add_zero]
        have c2' : decide (ab (rr (dz (dz z)) - rr (dz (dz (dz (dz z))))) ≤ x) = false := lt_t c2
        unfold chS nr
        rw [c1', c2']
        rfl
      · refine ar_push rfl ?_
        refine ar_go rfl ?_
        refine fin 1 ?_
        have c2' : decide (ab (rr (dz (dz z)) - rr (dz (dz (dz (dz z))))) ≤ x) = true := lt_f c2
        unfold chS nr
        rw [c1', c2']
        rfl
end P1H
