/-! THE PAGES of the reference, printed by program but for its head -/
section PGM
theorem arJ_len {h : aH} {a n : Nat} (hO : OK h) (ha : a < 114) (ht : T0.getD a (999, 0) = (4, n)) : (arJ h a).length = n := by
  obtain ⟨x, hc, hn, hs⟩ := hO.arr (hO.fix a ha ht) (by decide)
  obtain ⟨xs, rfl⟩ : ∃ xs, x = .inr (.inl xs) := hs
  rw [arJ_of hc]
  exact hn
theorem gD_set {xs : List Int64} {i n : Nat} {v : Int64} (hi : i < xs.length) : (xs.set i v).getD n 0 = if n = i then v else xs.getD n 0 := by
  rw [List.getD_eq_getElem?_getD, List.getD_eq_getElem?_getD]
  by_cases q : n = i
  · rw [if_pos q, q, List.getElem?_set_self hi]
    rfl
  · rw [if_neg q, List.getElem?_set_ne (fun e => q e.symm)]
theorem gd_gL {h : aH} {a n : Nat} {j : Int} {y : Int64} (e : j.toNat = n) (g : gL h a j = y) : y = (arJ h a).getD n 0 := by
  rw [← g, ← e]
  rfl
def zz (A B : List Int64) (lo hi : Nat) : Prop := ∀ n : Nat, B.getD n 0 = if lo ≤ n ∧ n < hi then 0 else A.getD n 0
theorem zz_0 {A : List Int64} {lo hi : Nat} (h : hi ≤ lo) : zz A A lo hi := fun n => by rw [if_neg (by omega)]
theorem zz_s {A B C : List Int64} {lo hi hi' j : Nat} (h : zz A B lo hi) (e : C = B.set j 0) (ej : j = hi) (e2 : lo ≤ hi ∧ hi' = hi + 1) (hl : j < B.length) : zz A C lo hi' := fun n => by
  rw [e, gD_set hl, h n]
  by_cases q : n = j
  · rw [if_pos q, if_pos (by omega)]
  · rw [if_neg q]
    by_cases k : lo ≤ n ∧ n < hi
    · rw [if_pos k, if_pos (by omega)]
    · rw [if_neg k, if_neg (by omega)]
def c1 (A B : List Int64) (s n : Nat) : Prop := ∀ k : Nat, k < n → B.getD k 0 = A.getD (s + k) 0
theorem c1_0 {A B : List Int64} {s : Nat} : c1 A B s (iN 0) := fun k hk => absurd hk (Nat.not_lt_zero _)
theorem c1_s {A B C : List Int64} {s n n' j : Nat} {y : Int64} (h : c1 A B s n) (e : C = B.set j y) (ey : y = A.getD (s + n) 0) (ej : j = n) (e2 : n' = n + 1) (hl : j < B.length) : c1 A C s n' := fun k hk => by
  rw [e, gD_set hl]
  by_cases q : k = j
  · rw [if_pos q, ey, q, ej]
  · rw [if_neg q]
    exact h k (by omega)
def c2 (S A B : List Int64) (lo n : Nat) : Prop := ∀ k : Nat, B.getD k 0 = if lo ≤ k ∧ k < lo + n then S.getD (k - lo) 0 else A.getD k 0
theorem c2_0 {S A : List Int64} {lo : Nat} : c2 S A A lo (iN 0) := fun k => by rw [if_neg (by show ¬ (lo ≤ k ∧ k < lo + 0); omega)]
theorem c2_s {S A B C : List Int64} {lo n n' j : Nat} {y : Int64} (h : c2 S A B lo n) (e : C = B.set j y) (ey : y = S.getD n 0) (ej : j = lo + n) (e2 : n' = n + 1) (hl : j < B.length) : c2 S A C lo n' := fun k => by
  rw [e, gD_set hl]
  by_cases q : k = j
  · rw [if_pos q, if_pos (by omega), ey, show k - lo = n by omega]
  · rw [if_neg q, h k]
    by_cases p : lo ≤ k ∧ k < lo + n
    · rw [if_pos p, if_pos (by omega)]
    · rw [if_neg p, if_neg (by omega)]
theorem c2_end {S A A0 B : List Int64} {lo s n n' m : Nat} (h : c2 S A B lo n) (g : c1 A0 S s n') (e : A = A0) (e1 : n = m) (e2 : m ≤ n') : ∀ k : Nat, B.getD k 0 = if lo ≤ k ∧ k < lo + m then A0.getD (s + (k - lo)) 0 else A0.getD k 0 := fun k => by
  subst e1 e
  rw [h k]
  by_cases p : lo ≤ k ∧ k < lo + n
  · rw [if_pos p, if_pos p]
    exact g _ (by omega)
  · rw [if_neg p, if_neg p]
set_option maxRecDepth 20000 in
set_option maxHeartbeats 4000000 in
theorem sd_X12_isWord {d kc ks : Nat} {h0 : aH} {Q : Option aV → aH → Prop} (hO0 : OK h0) (a1 : Int32) (hQ : ∀ r, (∃ q, r = some (.inl (bi q)) ∧ (q = true → (0 ≤ a1.toInt ∧ a1.toInt < fI h0 38)) ∧ (q = false → ¬ (0 ≤ a1.toInt ∧ a1.toInt < fI h0 38))) → Q r h0) : uCall Mt (d + 2) 233 [(.inr (.inr (some 69))), (.inl a1)] h0 kc ks Q := by
  have l_0 : ((0) : Int32).toInt = 0 := by decide
  have l_1 : ((1) : Int32).toInt = 1 := by decide
  refine uc_ink [some (.inr (.inr (some 69))), some (.inl a1)] mt_233 (Nat.le_of_ble_eq_true rfl) rfl ?_
  obtain ⟨fs1, hc2⟩ := hO0.mod
  obtain ⟨f3, p4, t5⟩ := mf_38 hO0 hc2
  have t6 := fI_of hc2 p4
  refine ur_ldI rfl rfl ?_
  refine ur_push rfl ?_
  refine ur_ldA rfl rfl ?_
  refine ur_get rfl hc2 p4 ?_
  refine ur_push rfl ?_
  refine ur_binV rfl (fun x7 e8 => ?_)
  have z9 := any_r f3
  have t10 := ti_sub e8 (by omega) (by omega)
  refine ur_callv rfl rfl (Nat.le_of_ble_eq_true rfl) (Nat.le_of_ble_eq_true rfl) rfl (sp_in _ _ _ _ _) ?_
  exact ur_ret rfl (bi_ret _) (hQ _ ⟨_, rfl, fun w => by have w := wi_to w; omega, fun w => by have w := wi_no w; omega⟩ )

set_option maxRecDepth 20000 in
set_option maxHeartbeats 4000000 in
theorem sd_X12_whyNoPlace {d kc ks : Nat} {h0 : aH} {Q : Option aV → aH → Prop} (hO0 : OK h0) (a1 : Int32) (a2 : Int32) (hQ : ∀ r, (∃ x : Int32, r = some (.inl x) ∧ (¬ (0 ≤ a1.toInt ∧ a1.toInt ≤ 5) ∧ x.toInt = -1 ∨ (0 ≤ a1.toInt ∧ a1.toInt ≤ 5) ∧ gI h0 110 a1.toInt = -1 ∧ x.toInt = -11 ∨ (0 ≤ a1.toInt ∧ a1.toInt ≤ 5) ∧ 0 ≤ gI h0 110 a1.toInt ∧ x.toInt = -12 ∨ ((0 ≤ a1.toInt ∧ a1.toInt ≤ 5) ∧ gI h0 110 a1.toInt ≤ -2) ∧ ¬ ((0 ≤ a1.toInt ∧ a1.toInt ≤ 5) ∧ gI h0 110 a1.toInt ≤ -2 ∧ 0 ≤ a2.toInt ∧ a2.toInt < gI h0 111 a1.toInt) ∧ x.toInt = -13 ∨ ((0 ≤ a1.toInt ∧ a1.toInt ≤ 5) ∧ gI h0 110 a1.toInt ≤ -2 ∧ 0 ≤ a2.toInt ∧ a2.toInt < gI h0 111 a1.toInt) ∧ x.toInt = 0)) → Q r h0) : uCall Mt (d + 3) 299 [(.inr (.inr (some 69))), (.inl a1), (.inl a2)] h0 kc ks Q := by
  have l_m13 : ((-13) : Int32).toInt = -13 := by decide
  have l_m12 : ((-12) : Int32).toInt = -12 := by decide
  have l_m11 : ((-11) : Int32).toInt = -11 := by decide
  have l_m1 : ((-1) : Int32).toInt = -1 := by decide
  have l_0 : ((0) : Int32).toInt = 0 := by decide
  have l_1 : ((1) : Int32).toInt = 1 := by decide
  have l_5 : ((5) : Int32).toInt = 5 := by decide
  refine uc_ink [some (.inr (.inr (some 69))), some (.inl a1), some (.inl a2)] mt_299 (Nat.le_of_ble_eq_true rfl) rfl ?_
  refine ur_ldI rfl rfl ?_
  refine ur_callv rfl rfl (Nat.le_of_ble_eq_true rfl) (Nat.le_of_ble_eq_true rfl) rfl (sq_isShf _ _) ?_
  refine ur_neB rfl (fun c3 => ?_) (fun c3 => ?_)
  · have t4 := wi_toL c3 l_0 l_5
    refine ur_ldA rfl rfl ?_
    obtain ⟨fs5, hc6⟩ := hO0.mod
    refine ur_get rfl hc6 (mf_65 hO0 hc6) ?_
    refine ur_ldI rfl rfl ?_
    obtain ⟨xs8, hc7, hn9, he10⟩ := hO0.int (hO0.fix 110 (by decide) rfl)
    refine ur_aldV rfl hc7 hn9 (by omega) (fun x11 hx12 => ?_)
    have t13 := gI_of (j := a1) hc7 hx12
    have t14 : -6 ≤ x11.toInt ∧ x11.toInt ≤ 149 := he10 _ _ hx12
    refine ur_push rfl ?_
    refine ur_if2 rfl (fun c15 => ?_) (fun c15 => ?_)
    · have t16 := ne_to c15
      refine ur_ldA rfl rfl ?_
      refine ur_get rfl hc6 (mf_65 hO0 hc6) ?_
      refine ur_ldI rfl rfl ?_
      refine ur_aldV rfl hc7 hn9 (by omega) (fun x17 hx18 => ?_)
      obtain rfl : x11 = x17 := Option.some.inj (hx12.symm.trans hx18)
      refine ur_if1 rfl (fun c19 => ?_) (fun c19 => ?_)
      · have t20 := lt_to c19
        refine ur_ldI rfl rfl ?_
        refine ur_push rfl ?_
        refine ur_ldA rfl rfl ?_
        refine ur_get rfl hc6 (mf_66 hO0 hc6) ?_
        refine ur_ldI rfl rfl ?_
        obtain ⟨xs22, hc21, hn23, he24⟩ := hO0.int (hO0.fix 111 (by decide) rfl)
        refine ur_aldV rfl hc21 hn23 (by omega) (fun x25 hx26 => ?_)
        have t27 := gI_of (j := a1) hc21 hx26
        have t28 : 0 ≤ x25.toInt ∧ x25.toInt ≤ 60 := he24 _ _ hx26
        refine ur_push rfl ?_
        refine ur_binV rfl (fun x29 e30 => ?_)
        have z31 := any_r x25
        have t32 := ti_sub e30 (by omega) (by omega)
        refine ur_callv rfl rfl (Nat.le_of_ble_eq_true rfl) (Nat.le_of_ble_eq_true rfl) rfl (sp_in _ _ _ _ _) ?_
        refine ur_eqB rfl (fun c35 => ?_) (fun c35 => ?_)
        · have t36 := wi_no c35
          refine ur_push rfl ?_
          exact ur_ret rfl rfl (hQ _ ⟨_, rfl, Or.inr (Or.inr (Or.inr (Or.inl ⟨by omega, by omega, by omega⟩)))⟩ )
        · have t37 := wi_to c35
          refine ur_push rfl ?_
          refine ur_go rfl ?_
          exact ur_ret rfl rfl (hQ _ ⟨_, rfl, Or.inr (Or.inr (Or.inr (Or.inr ⟨by omega, by omega⟩)))⟩ )
      · have t38 := lt_no c19
        refine ur_push rfl ?_
        exact ur_ret rfl rfl (hQ _ ⟨_, rfl, Or.inr (Or.inr (Or.inl ⟨by omega, by omega, by omega⟩))⟩ )
    · have t39 := ne_no c15
      refine ur_push rfl ?_
      exact ur_ret rfl rfl (hQ _ ⟨_, rfl, Or.inr (Or.inl ⟨by omega, by omega, by omega⟩)⟩ )
  · have t40 := wi_noL c3 l_0 l_5
    refine ur_push rfl ?_
    exact ur_ret rfl rfl (hQ _ ⟨_, rfl, Or.inl ⟨by omega, by omega⟩⟩ )

set_option maxRecDepth 20000 in
set_option maxHeartbeats 4000000 in
theorem sd_X12_element {d kc ks : Nat} {h0 : aH} {Q : Option aV → aH → Prop} (hO0 : OK h0) (a1 : Int32) (a2 : Int32) (hQ : ∀ r, (∃ x : Int64, r = some (.inr (.inl x)) ∧ ((((0 ≤ a1.toInt ∧ a1.toInt ≤ 5) ∧ gI h0 110 a1.toInt ≤ -2 ∧ 0 ≤ a2.toInt ∧ a2.toInt < gI h0 111 a1.toInt) → x = gL h0 112 (60 * a1.toInt + a2.toInt)) ∧ (¬ ((0 ≤ a1.toInt ∧ a1.toInt ≤ 5) ∧ gI h0 110 a1.toInt ≤ -2 ∧ 0 ≤ a2.toInt ∧ a2.toInt < gI h0 111 a1.toInt) → x = -9223372036854775808))) → Q r h0) : uCall Mt (d + 4) 301 [(.inr (.inr (some 69))), (.inl a1), (.inl a2)] h0 kc ks Q := by
  have l_0 : ((0) : Int32).toInt = 0 := by decide
  have l_60 : ((60) : Int32).toInt = 60 := by decide
  refine uc_ink [some (.inr (.inr (some 69))), some (.inl a1), some (.inl a2)] mt_301 (Nat.le_of_ble_eq_true rfl) rfl ?_
  have t1 := gI111 hO0 a1.toInt
  refine ur_ldA rfl rfl ?_
  refine ur_ldI rfl rfl ?_
  refine ur_ldI rfl rfl ?_
  obtain ⟨fs2, hc3⟩ := hO0.mod
  refine ur_inl rfl (rcv_of hc3) (Nat.le_of_ble_eq_true rfl) (Nat.le_of_ble_eq_true rfl) (sd_X12_whyNoPlace hO0 _ _ (fun w4 hr5 => ?_))
  obtain ⟨x6, rfl, t7⟩ := hr5
  show uRun _ (uCall Mt _) _ 6 (_, [(.inl x6)], _, _, _)
  refine ur_if1 rfl (fun c8 => ?_) (fun c8 => ?_)
  · have t9 := le_to c8
    have t10 : 0 ≤ a1.toInt ∧ a1.toInt ≤ 5 := by omega
    have t11 : 0 ≤ a2.toInt ∧ a2.toInt ≤ 59 := by omega
    refine ur_ldA rfl rfl ?_
    refine ur_get rfl hc3 (mf_67 hO0 hc3) ?_
    refine ur_push rfl ?_
    refine ur_ldI rfl rfl ?_
    refine ur_binV rfl (fun x12 e13 => ?_)
    have z14 := any_r a1
    have t15 := ti_mulR e13 l_60 (by omega) (by omega)
    refine ur_ldI rfl rfl ?_
    refine ur_binV rfl (fun x16 e17 => ?_)
    have z18 := any_r x12
    have z19 := any_r a2
    have t20 := ti_add e17 (by omega) (by omega)
    obtain ⟨xs22, hc21, hn23⟩ := hO0.lon (hO0.fix 112 (by decide) rfl)
    refine ur_aldJV rfl hc21 hn23 (by omega) (fun y25 hx26 => ?_)
    have g27 := gL_of (j := x16) hc21 hx26
    exact ur_ret rfl rfl (hQ _ ⟨_, rfl, ⟨fun _ => by rw [show (60 * a1.toInt + a2.toInt) = x16.toInt by omega]; exact g27.symm, fun q => absurd (by omega) q⟩⟩ )
  · have t28 := le_no c8
    refine ur_push rfl ?_
    refine ur_go rfl ?_
    exact ur_ret rfl rfl (hQ _ ⟨_, rfl, ⟨fun q => by exfalso; omega, fun _ => rfl⟩⟩ )

set_option maxRecDepth 20000 in
set_option maxHeartbeats 4000000 in
theorem sd_X12_put {d kc ks : Nat} {h0 : aH} {Q : Option aV → aH → Prop} (hO0 : OK h0) (a1 : Int32) (a2 : Int32) (a3 : Int64) (hQ : ∀ r h', (∃ x : Int32, r = some (.inl x) ∧ (¬ (0 ≤ a1.toInt ∧ a1.toInt ≤ 5) ∧ x.toInt = -1 ∨ (0 ≤ a1.toInt ∧ a1.toInt ≤ 5) ∧ gI h0 110 a1.toInt = -1 ∧ x.toInt = -11 ∨ (0 ≤ a1.toInt ∧ a1.toInt ≤ 5) ∧ 0 ≤ gI h0 110 a1.toInt ∧ x.toInt = -12 ∨ ((0 ≤ a1.toInt ∧ a1.toInt ≤ 5) ∧ gI h0 110 a1.toInt ≤ -2) ∧ ¬ ((0 ≤ a1.toInt ∧ a1.toInt ≤ 5) ∧ gI h0 110 a1.toInt ≤ -2 ∧ 0 ≤ a2.toInt ∧ a2.toInt < gI h0 111 a1.toInt) ∧ x.toInt = -13 ∨ ((0 ≤ a1.toInt ∧ a1.toInt ≤ 5) ∧ gI h0 110 a1.toInt ≤ -2 ∧ 0 ≤ a2.toInt ∧ a2.toInt < gI h0 111 a1.toInt) ∧ x.toInt = 1)) → OK h' → un [112] h0 h' → ((((0 ≤ a1.toInt ∧ a1.toInt ≤ 5) ∧ gI h0 110 a1.toInt ≤ -2 ∧ 0 ≤ a2.toInt ∧ a2.toInt < gI h0 111 a1.toInt) → wJ h0 h' 112 ((arJ h0 112).set (60 * a1.toInt + a2.toInt).toNat (nrw (-2 - gI h0 110 a1.toInt) a3))) ∧ (¬ ((0 ≤ a1.toInt ∧ a1.toInt ≤ 5) ∧ gI h0 110 a1.toInt ≤ -2 ∧ 0 ≤ a2.toInt ∧ a2.toInt < gI h0 111 a1.toInt) → h' = h0)) → Q r h') : uCall Mt (d + 4) 300 [(.inr (.inr (some 69))), (.inl a1), (.inl a2), (.inr (.inl a3))] h0 kc ks Q := by
  have l_m2 : ((-2) : Int32).toInt = -2 := by decide
  have l_0 : ((0) : Int32).toInt = 0 := by decide
  have l_1 : ((1) : Int32).toInt = 1 := by decide
  have l_2 : ((2) : Int32).toInt = 2 := by decide
  have l_3 : ((3) : Int32).toInt = 3 := by decide
  have l_60 : ((60) : Int32).toInt = 60 := by decide
  refine uc_ink [some (.inr (.inr (some 69))), some (.inl a1), some (.inl a2), some (.inr (.inl a3)), none, none, none] mt_300 (Nat.le_of_ble_eq_true rfl) rfl ?_
  have t1 := gI111 hO0 a1.toInt
  refine ur_ldA rfl rfl ?_
  refine ur_ldI rfl rfl ?_
  refine ur_ldI rfl rfl ?_
  obtain ⟨fs2, hc3⟩ := hO0.mod
  refine ur_inl rfl (rcv_of hc3) (Nat.le_of_ble_eq_true rfl) (Nat.le_of_ble_eq_true rfl) (sd_X12_whyNoPlace hO0 _ _ (fun w4 hr5 => ?_))
  obtain ⟨x6, rfl, t7⟩ := hr5
  show uRun _ (uCall Mt _) _ 6 (_, [(.inl x6)], _, _, _)
  refine ur_svIk [some (.inr (.inr (some 69))), some (.inl a1), some (.inl a2), some (.inr (.inl a3)), none, some (.inl x6), none] rfl rfl ?_
  refine ur_ldI rfl rfl ?_
  refine ur_if1 rfl (fun c8 => ?_) (fun c8 => ?_)
  · have t9 := le_to c8
    have t10 : 0 ≤ a1.toInt ∧ a1.toInt ≤ 5 := by omega
    have t11 : 0 ≤ a2.toInt ∧ a2.toInt ≤ 59 := by omega
    refine ur_push rfl ?_
    refine ur_ldA rfl rfl ?_
    refine ur_get rfl hc3 (mf_65 hO0 hc3) ?_
    refine ur_ldI rfl rfl ?_
    obtain ⟨xs13, hc12, hn14, he15⟩ := hO0.int (hO0.fix 110 (by decide) rfl)
    refine ur_aldV rfl hc12 hn14 (by omega) (fun x16 hx17 => ?_)
    have t18 := gI_of (j := a1) hc12 hx17
    have t19 : -6 ≤ x16.toInt ∧ x16.toInt ≤ 149 := he15 _ _ hx17
    refine ur_binV rfl (fun x20 e21 => ?_)
    have z22 := any_r x16
    have t23 := ti_sub e21 (by omega) (by omega)
    refine ur_svIk [some (.inr (.inr (some 69))), some (.inl a1), some (.inl a2), some (.inr (.inl a3)), none, some (.inl x6), some (.inl x20)] rfl rfl ?_
    refine ur_ldA rfl rfl ?_
    refine ur_get rfl hc3 (mf_67 hO0 hc3) ?_
    refine ur_push rfl ?_
    refine ur_ldI rfl rfl ?_
    refine ur_binV rfl (fun x24 e25 => ?_)
    have z26 := any_r a1
    have t27 := ti_mulR e25 l_60 (by omega) (by omega)
    refine ur_ldI rfl rfl ?_
    refine ur_binV rfl (fun x28 e29 => ?_)
    have z30 := any_r x24
    have z31 := any_r a2
    have t32 := ti_add e29 (by omega) (by omega)
    refine ur_ldI rfl rfl ?_
    refine ur_if1 rfl (fun c33 => ?_) (fun c33 => ?_)
    · have t34 := ne_to c33
      refine ur_ldI rfl rfl ?_
      refine ur_push rfl ?_
      refine ur_if2 rfl (fun c35 => ?_) (fun c35 => ?_)
      · have t36 := ne_to c35
        refine ur_ldI rfl rfl ?_
        refine ur_push rfl ?_
        refine ur_if2 rfl (fun c37 => ?_) (fun c37 => ?_)
        · have t38 := ne_to c37
          refine ur_ldI rfl rfl ?_
          refine ur_push rfl ?_
          refine ur_if2 rfl (fun c39 => ?_) (fun c39 => ?_)
          · have t40 := ne_to c39
            refine ur_ldJ rfl rfl ?_
            refine ur_push rfl ?_
            refine ur_cmpJV rfl (fun x41 e42 => ?_)
            refine ur_if1 rfl (fun c43 => ?_) (fun c43 => ?_)
            · have t44 := eq_to c43
              refine ur_push rfl ?_
              obtain ⟨xs46, hc45, hn47⟩ := hO0.lon (hO0.fix 112 (by decide) rfl)
              refine ur_astJV (W := [112]) (m := 360) rfl hO0 hc45 hn47 (by omega) (Or.inr (Or.inr (wid_fix (by decide) (by decide)))) (fun h51 hO51 hu51 d49 hc50 => ?_)
              have w52 : wJ h0 h51 112 ((arJ h0 112).set (x28 : Int32).toInt.toNat 0) := ⟨by rw [arJ_of hc50, arJ_of hc45], d49⟩
              refine ur_push rfl ?_
              exact ur_ret rfl rfl (hQ _ _ ⟨_, rfl, Or.inr (Or.inr (Or.inr (Or.inr ⟨by omega, by omega⟩)))⟩ hO51 hu51 ⟨fun _ => by rw [show (60 * a1.toInt + a2.toInt) = x28.toInt by omega, ← (show 0 = nrw (-2 - gI h0 110 a1.toInt) a3 from nrw_4t (by omega) e42 (by omega))]; exact w52, fun q => absurd (by omega) q⟩)
            · have t53 := eq_no c43
              refine ur_push rfl ?_
              refine ur_go rfl ?_
              obtain ⟨xs55, hc54, hn56⟩ := hO0.lon (hO0.fix 112 (by decide) rfl)
              refine ur_astJV (W := [112]) (m := 360) rfl hO0 hc54 hn56 (by omega) (Or.inr (Or.inr (wid_fix (by decide) (by decide)))) (fun h60 hO60 hu60 d58 hc59 => ?_)
              have w61 : wJ h0 h60 112 ((arJ h0 112).set (x28 : Int32).toInt.toNat 1) := ⟨by rw [arJ_of hc59, arJ_of hc54], d58⟩
              refine ur_push rfl ?_
              exact ur_ret rfl rfl (hQ _ _ ⟨_, rfl, Or.inr (Or.inr (Or.inr (Or.inr ⟨by omega, by omega⟩)))⟩ hO60 hu60 ⟨fun _ => by rw [show (60 * a1.toInt + a2.toInt) = x28.toInt by omega, ← (show 1 = nrw (-2 - gI h0 110 a1.toInt) a3 from nrw_4f (by omega) e42 (by omega))]; exact w61, fun q => absurd (by omega) q⟩)
          · have t62 := ne_no c39
            refine ur_ldJ rfl rfl ?_
            refine ur_go rfl ?_
            obtain ⟨xs64, hc63, hn65⟩ := hO0.lon (hO0.fix 112 (by decide) rfl)
            refine ur_astJV (W := [112]) (m := 360) rfl hO0 hc63 hn65 (by omega) (Or.inr (Or.inr (wid_fix (by decide) (by decide)))) (fun h69 hO69 hu69 d67 hc68 => ?_)
            have w70 : wJ h0 h69 112 ((arJ h0 112).set (x28 : Int32).toInt.toNat a3) := ⟨by rw [arJ_of hc68, arJ_of hc63], d67⟩
            refine ur_push rfl ?_
            exact ur_ret rfl rfl (hQ _ _ ⟨_, rfl, Or.inr (Or.inr (Or.inr (Or.inr ⟨by omega, by omega⟩)))⟩ hO69 hu69 ⟨fun _ => by rw [show (60 * a1.toInt + a2.toInt) = x28.toInt by omega, ← (show a3 = nrw (-2 - gI h0 110 a1.toInt) a3 from nrw_3 (by omega))]; exact w70, fun q => absurd (by omega) q⟩)
        · have t71 := ne_no c37
          refine ur_ldJ rfl rfl ?_
          refine ur_l2iV rfl (fun x72 e73 => ?_)
          refine ur_i2lV rfl (fun y74 e75 => ?_)
          refine ur_go rfl ?_
          obtain ⟨xs77, hc76, hn78⟩ := hO0.lon (hO0.fix 112 (by decide) rfl)
          refine ur_astJV (W := [112]) (m := 360) rfl hO0 hc76 hn78 (by omega) (Or.inr (Or.inr (wid_fix (by decide) (by decide)))) (fun h82 hO82 hu82 d80 hc81 => ?_)
          have w83 : wJ h0 h82 112 ((arJ h0 112).set (x28 : Int32).toInt.toNat y74) := ⟨by rw [arJ_of hc81, arJ_of hc76], d80⟩
          refine ur_push rfl ?_
          exact ur_ret rfl rfl (hQ _ _ ⟨_, rfl, Or.inr (Or.inr (Or.inr (Or.inr ⟨by omega, by omega⟩)))⟩ hO82 hu82 ⟨fun _ => by rw [show (60 * a1.toInt + a2.toInt) = x28.toInt by omega, ← (show y74 = nrw (-2 - gI h0 110 a1.toInt) a3 from nrw_2 (by omega) e73 e75)]; exact w83, fun q => absurd (by omega) q⟩)
      · have t84 := ne_no c35
        refine ur_ldJ rfl rfl ?_
        refine ur_l2iV rfl (fun x85 e86 => ?_)
        refine ur_unV rfl (fun x87 e88 => ?_)
        refine ur_i2lV rfl (fun y89 e90 => ?_)
        refine ur_go rfl ?_
        obtain ⟨xs92, hc91, hn93⟩ := hO0.lon (hO0.fix 112 (by decide) rfl)
        refine ur_astJV (W := [112]) (m := 360) rfl hO0 hc91 hn93 (by omega) (Or.inr (Or.inr (wid_fix (by decide) (by decide)))) (fun h97 hO97 hu97 d95 hc96 => ?_)
        have w98 : wJ h0 h97 112 ((arJ h0 112).set (x28 : Int32).toInt.toNat y89) := ⟨by rw [arJ_of hc96, arJ_of hc91], d95⟩
        refine ur_push rfl ?_
        exact ur_ret rfl rfl (hQ _ _ ⟨_, rfl, Or.inr (Or.inr (Or.inr (Or.inr ⟨by omega, by omega⟩)))⟩ hO97 hu97 ⟨fun _ => by rw [show (60 * a1.toInt + a2.toInt) = x28.toInt by omega, ← (show y89 = nrw (-2 - gI h0 110 a1.toInt) a3 from nrw_1 (by omega) e86 e88 e90)]; exact w98, fun q => absurd (by omega) q⟩)
    · have t99 := ne_no c33
      refine ur_ldJ rfl rfl ?_
      refine ur_l2iV rfl (fun x100 e101 => ?_)
      refine ur_unV rfl (fun x102 e103 => ?_)
      refine ur_i2lV rfl (fun y104 e105 => ?_)
      refine ur_go rfl ?_
      obtain ⟨xs107, hc106, hn108⟩ := hO0.lon (hO0.fix 112 (by decide) rfl)
      refine ur_astJV (W := [112]) (m := 360) rfl hO0 hc106 hn108 (by omega) (Or.inr (Or.inr (wid_fix (by decide) (by decide)))) (fun h112 hO112 hu112 d110 hc111 => ?_)
      have w113 : wJ h0 h112 112 ((arJ h0 112).set (x28 : Int32).toInt.toNat y104) := ⟨by rw [arJ_of hc111, arJ_of hc106], d110⟩
      refine ur_push rfl ?_
      exact ur_ret rfl rfl (hQ _ _ ⟨_, rfl, Or.inr (Or.inr (Or.inr (Or.inr ⟨by omega, by omega⟩)))⟩ hO112 hu112 ⟨fun _ => by rw [show (60 * a1.toInt + a2.toInt) = x28.toInt by omega, ← (show y104 = nrw (-2 - gI h0 110 a1.toInt) a3 from nrw_0 (by omega) e101 e103 e105)]; exact w113, fun q => absurd (by omega) q⟩)
  · have t114 := le_no c8
    refine ur_ldI rfl rfl ?_
    exact ur_ret rfl rfl (hQ _ _ ⟨_, rfl, by omega⟩ hO0 un.rf ⟨fun q => by exfalso; omega, fun _ => rfl⟩)

set_option maxRecDepth 20000 in
set_option maxHeartbeats 4000000 in
theorem sd_X12_keep {d kc ks : Nat} {h0 : aH} {Q : Option aV → aH → Prop} (hO0 : OK h0) (a1 : Int32) (a2 : Int32) (hQ : ∀ r h', (∃ x : Int32, r = some (.inl x) ∧ ((0 ≤ a1.toInt ∧ a1.toInt ≤ 5) ∧ a2.toInt = -1 ∧ x.toInt = 1 ∨ (0 ≤ a1.toInt ∧ a1.toInt ≤ 5) ∧ (0 ≤ a2.toInt ∧ a2.toInt < fI h0 38) ∧ x.toInt = 1 ∨ ¬ ((0 ≤ a1.toInt ∧ a1.toInt ≤ 5) ∧ (a2.toInt = -1 ∨ (0 ≤ a2.toInt ∧ a2.toInt < fI h0 38))) ∧ x.toInt = -1)) → OK h' → un [110] h0 h' → ((((0 ≤ a1.toInt ∧ a1.toInt ≤ 5) ∧ (a2.toInt = -1 ∨ (0 ≤ a2.toInt ∧ a2.toInt < fI h0 38))) → wI h0 h' 110 ((arI h0 110).set a1.toInt.toNat a2)) ∧ (¬ ((0 ≤ a1.toInt ∧ a1.toInt ≤ 5) ∧ (a2.toInt = -1 ∨ (0 ≤ a2.toInt ∧ a2.toInt < fI h0 38))) → h' = h0)) → Q r h') : uCall Mt (d + 3) 297 [(.inr (.inr (some 69))), (.inl a1), (.inl a2)] h0 kc ks Q := by
  have l_m1 : ((-1) : Int32).toInt = -1 := by decide
  have l_0 : ((0) : Int32).toInt = 0 := by decide
  have l_1 : ((1) : Int32).toInt = 1 := by decide
  have l_5 : ((5) : Int32).toInt = 5 := by decide
  refine uc_ink [some (.inr (.inr (some 69))), some (.inl a1), some (.inl a2)] mt_297 (Nat.le_of_ble_eq_true rfl) rfl ?_
  obtain ⟨fs1, hc2⟩ := hO0.mod
  obtain ⟨f3, p4, t5⟩ := mf_38 hO0 hc2
  have t6 := fI_of hc2 p4
  refine ur_ldI rfl rfl ?_
  refine ur_callv rfl rfl (Nat.le_of_ble_eq_true rfl) (Nat.le_of_ble_eq_true rfl) rfl (sq_isShf _ _) ?_
  refine ur_eqB rfl (fun c9 => ?_) (fun c9 => ?_)
  · have t10 := wi_noL c9 l_0 l_5
    refine ur_push rfl ?_
    exact ur_ret rfl rfl (hQ _ _ ⟨_, rfl, Or.inr (Or.inr ⟨by omega, by omega⟩)⟩ hO0 un.rf ⟨fun q => by exfalso; omega, fun _ => rfl⟩)
  · have t11 := wi_toL c9 l_0 l_5
    refine ur_ldI rfl rfl ?_
    refine ur_push rfl ?_
    refine ur_if2 rfl (fun c12 => ?_) (fun c12 => ?_)
    · have t13 := eq_to c12
      refine ur_ldA rfl rfl ?_
      refine ur_get rfl hc2 (mf_65 hO0 hc2) ?_
      refine ur_ldI rfl rfl ?_
      refine ur_ldI rfl rfl ?_
      obtain ⟨xs15, hc14, hn16, he17⟩ := hO0.int (hO0.fix 110 (by decide) rfl)
      refine ur_astV (W := [110]) (m := 6) rfl hO0 hc14 (by decide) hn16 (by omega) (by show -6 ≤ a2.toInt ∧ a2.toInt ≤ 149; omega) (Or.inr (Or.inr (wid_fix (by decide) (by decide)))) (fun h20 hO20 hu20 d18 hc19 => ?_)
      have w21 : wI h0 h20 110 ((arI h0 110).set (a1 : Int32).toInt.toNat a2) := ⟨by rw [arI_of hc19, arI_of hc14], d18⟩
      refine ur_push rfl ?_
      have t22 := fI_of ((d18 _ (by decide)).trans hc2) p4
      exact ur_ret rfl rfl (hQ _ _ ⟨_, rfl, by omega⟩ hO20 hu20 ⟨fun _ => w21, fun q => absurd (by omega) q⟩)
    · have t23 := eq_no c12
      refine ur_ldA rfl rfl ?_
      refine ur_ldI rfl rfl ?_
      refine ur_inl rfl (rcv_of hc2) (Nat.le_of_ble_eq_true rfl) (Nat.le_of_ble_eq_true rfl) (sd_X12_isWord hO0 _ (fun w24 hr25 => ?_))
      obtain ⟨b26, rfl, t27, t28⟩ := hr25
      show uRun _ (uCall Mt _) _ 17 (_, [(.inl (bi b26))], _, _, _)
      refine ur_neB rfl (fun c29 => ?_) (fun c29 => ?_)
      · have t30 := t27 c29
        clear t27 t28
        refine ur_ldA rfl rfl ?_
        refine ur_get rfl hc2 (mf_65 hO0 hc2) ?_
        refine ur_ldI rfl rfl ?_
        refine ur_ldI rfl rfl ?_
        obtain ⟨xs32, hc31, hn33, he34⟩ := hO0.int (hO0.fix 110 (by decide) rfl)
        refine ur_astV (W := [110]) (m := 6) rfl hO0 hc31 (by decide) hn33 (by omega) (by show -6 ≤ a2.toInt ∧ a2.toInt ≤ 149; omega) (Or.inr (Or.inr (wid_fix (by decide) (by decide)))) (fun h37 hO37 hu37 d35 hc36 => ?_)
        have w38 : wI h0 h37 110 ((arI h0 110).set (a1 : Int32).toInt.toNat a2) := ⟨by rw [arI_of hc36, arI_of hc31], d35⟩
        refine ur_push rfl ?_
        have t39 := fI_of ((d35 _ (by decide)).trans hc2) p4
        exact ur_ret rfl rfl (hQ _ _ ⟨_, rfl, by omega⟩ hO37 hu37 ⟨fun _ => w38, fun q => absurd (by omega) q⟩)
      · have t40 := t28 c29
        clear t27 t28
        refine ur_push rfl ?_
        exact ur_ret rfl rfl (hQ _ _ ⟨_, rfl, Or.inr (Or.inr ⟨by omega, by omega⟩)⟩ hO0 un.rf ⟨fun q => by exfalso; omega, fun _ => rfl⟩)

set_option maxRecDepth 20000 in
set_option maxHeartbeats 4000000 in
theorem se_X12_row {d kc ks : Nat} {h0 : aH} {Q : Option aV → aH → Prop} (hO0 : OK h0) (a1 : Int32) (a2 : Int32) (a3 : Int32) (hQ : ∀ r h', (∃ x : Int32, r = some (.inl x) ∧ (x.toInt = 1 ∧ ((0 ≤ a1.toInt ∧ a1.toInt ≤ 5) ∧ (0 ≤ a2.toInt ∧ a2.toInt ≤ 4) ∧ a3.toInt ≤ 60) ∧ 0 ≤ a3.toInt ∨ x.toInt = -14 ∧ ((0 ≤ a1.toInt ∧ a1.toInt ≤ 5) ∧ (0 ≤ a2.toInt ∧ a2.toInt ≤ 4) ∧ a3.toInt ≤ 60) ∧ a3.toInt < 0 ∨ x.toInt = -1 ∧ ¬ ((0 ≤ a1.toInt ∧ a1.toInt ≤ 5) ∧ (0 ≤ a2.toInt ∧ a2.toInt ≤ 4) ∧ a3.toInt ≤ 60))) → OK h' → un [110, 111, 112] h0 h' → ((((0 ≤ a1.toInt ∧ a1.toInt ≤ 5) ∧ (0 ≤ a2.toInt ∧ a2.toInt ≤ 4) ∧ 0 ≤ a3.toInt ∧ a3.toInt ≤ 60) → ∃ h1 h2 v, OK h1 ∧ wI h0 h1 110 ((arI h0 110).set a1.toInt.toNat v) ∧ v.toInt = -2 - a2.toInt ∧ wI h1 h2 111 ((arI h1 111).set a1.toInt.toNat a3) ∧ (∀ b, b ≠ 112 → h'[b]? = h2[b]?) ∧ zz (arJ h2 112) (arJ h' 112) (60 * a1.toInt).toNat ((60 * a1.toInt).toNat + 60)) ∧ (¬ ((0 ≤ a1.toInt ∧ a1.toInt ≤ 5) ∧ (0 ≤ a2.toInt ∧ a2.toInt ≤ 4) ∧ 0 ≤ a3.toInt ∧ a3.toInt ≤ 60) → h' = h0)) → Q r h') : uCall Mt (d + 3) 298 [(.inr (.inr (some 69))), (.inl a1), (.inl a2), (.inl a3)] h0 kc ks Q := by
  have l_m14 : ((-14) : Int32).toInt = -14 := by decide
  have l_m2 : ((-2) : Int32).toInt = -2 := by decide
  have l_m1 : ((-1) : Int32).toInt = -1 := by decide
  have l_0 : ((0) : Int32).toInt = 0 := by decide
  have l_1 : ((1) : Int32).toInt = 1 := by decide
  have l_4 : ((4) : Int32).toInt = 4 := by decide
  have l_5 : ((5) : Int32).toInt = 5 := by decide
  have l_60 : ((60) : Int32).toInt = 60 := by decide
  refine uc_ink [some (.inr (.inr (some 69))), some (.inl a1), some (.inl a2), some (.inl a3), none] mt_298 (Nat.le_of_ble_eq_true rfl) rfl ?_
  refine ur_ldI rfl rfl ?_
  refine ur_callv rfl rfl (Nat.le_of_ble_eq_true rfl) (Nat.le_of_ble_eq_true rfl) rfl (sq_isShf _ _) ?_
  refine ur_eqB rfl (fun c3 => ?_) (fun c3 => ?_)
  · have t4 := wi_noL c3 l_0 l_5
    refine ur_push rfl ?_
    exact ur_ret rfl rfl (hQ _ _ ⟨_, rfl, Or.inr (Or.inr ⟨by omega, by omega⟩)⟩ hO0 un.rf ⟨fun q => by exfalso; omega, fun _ => rfl⟩)
  · have t5 := wi_toL c3 l_0 l_5
    refine ur_ldI rfl rfl ?_
    refine ur_push rfl ?_
    refine ur_push rfl ?_
    refine ur_callv rfl rfl (Nat.le_of_ble_eq_true rfl) (Nat.le_of_ble_eq_true rfl) rfl (sp_in _ _ _ _ _) ?_
    refine ur_eqB rfl (fun c8 => ?_) (fun c8 => ?_)
    · have t9 := wi_noL c8 l_0 l_4
      refine ur_push rfl ?_
      exact ur_ret rfl rfl (hQ _ _ ⟨_, rfl, Or.inr (Or.inr ⟨by omega, by omega⟩)⟩ hO0 un.rf ⟨fun q => by exfalso; omega, fun _ => rfl⟩)
    · have t10 := wi_toL c8 l_0 l_4
      refine ur_ldI rfl rfl ?_
      refine ur_push rfl ?_
      refine ur_if2 rfl (fun c11 => ?_) (fun c11 => ?_)
      · have t12 := le_to c11
        refine ur_ldI rfl rfl ?_
        refine ur_if1 rfl (fun c13 => ?_) (fun c13 => ?_)
        · have t14 := le_to c13
          refine ur_ldA rfl rfl ?_
          obtain ⟨fs15, hc16⟩ := hO0.mod
          refine ur_get rfl hc16 (mf_65 hO0 hc16) ?_
          refine ur_ldI rfl rfl ?_
          refine ur_push rfl ?_
          refine ur_ldI rfl rfl ?_
          refine ur_binV rfl (fun x17 e18 => ?_)
          have z19 := any_r a2
          have t20 := ti_sub e18 (by omega) (by omega)
          obtain ⟨xs22, hc21, hn23, he24⟩ := hO0.int (hO0.fix 110 (by decide) rfl)
          refine ur_astV (W := [110, 111, 112]) (m := 6) rfl hO0 hc21 (by decide) hn23 (by omega) (by show -6 ≤ x17.toInt ∧ x17.toInt ≤ 149; omega) (Or.inr (Or.inr (wid_fix (by decide) (by decide)))) (fun h27 hO27 hu27 d25 hc26 => ?_)
          have w28 : wI h0 h27 110 ((arI h0 110).set (a1 : Int32).toInt.toNat x17) := ⟨by rw [arI_of hc26, arI_of hc21], d25⟩
          refine ur_ldA rfl rfl ?_
          refine ur_get rfl ((d25 _ (by decide)).trans hc16) (mf_66 hO27 ((d25 _ (by decide)).trans hc16)) ?_
          refine ur_ldI rfl rfl ?_
          refine ur_ldI rfl rfl ?_
          obtain ⟨xs30, hc29, hn31, he32⟩ := hO27.int (hO27.fix 111 (by decide) rfl)
          refine ur_astV (W := [110, 111, 112]) (m := 6) rfl hO27 hc29 (by decide) hn31 (by omega) (by show 0 ≤ a3.toInt ∧ a3.toInt ≤ 60; omega) (Or.inr (Or.inr (wid_fix (by decide) (by decide)))) (fun h35 hO35 hu35 d33 hc34 => ?_)
          have w36 : wI h27 h35 111 ((arI h27 111).set (a1 : Int32).toInt.toNat a3) := ⟨by rw [arI_of hc34, arI_of hc29], d33⟩
          refine ur_push rfl ?_
          refine ur_ldI rfl rfl ?_
          refine ur_binV rfl (fun x37 e38 => ?_)
          have z39 := any_r a1
          have t40 := ti_mulR e38 l_60 (by omega) (by omega)
          refine ur_svIk [some (.inr (.inr (some 69))), some (.inl a1), some (.inl a2), some (.inl a3), some (.inl x37)] rfl rfl ?_
          have L42 : ∀ (m43 : Nat) (x41 : Int32) (h45 : aH) , OK h45 → un [110, 111, 112] h35 h45 → ((0 ≤ x41.toInt ∧ x41.toInt ≤ 360) ∧ 60 * a1.toInt ≤ x41.toInt ∧ x41.toInt ≤ 60 * a1.toInt + 60) → ((∀ b, b ≠ 112 → h45[b]? = h35[b]?) ∧ zz (arJ h35 112) (arJ h45 112) (60 * a1.toInt).toNat (iN x41)) → ((361 - x41.toInt).toNat) < m43 → uRun oX12_row (uCall Mt (d + 2)) Q 54 ([some (.inr (.inr (some 69))), some (.inl a1), some (.inl a2), some (.inl a3), some (.inl x41)], [], h45, kc, ks) := by
            intro m43
            induction m43 with
            | zero => intro x41 h45 hO45 hu45 iv47 px46 mm48; omega
            | succ m43 ih44 =>
              intro x41 h45 hO45 hu45 iv47 px46 mm48
              refine ur_ldI rfl rfl ?_
              refine ur_push rfl ?_
              refine ur_ldI rfl rfl ?_
              refine ur_binV rfl (fun x49 e50 => ?_)
              have t51 := ti_mulR e50 l_60 (by omega) (by omega)
              refine ur_push rfl ?_
              refine ur_binV rfl (fun x52 e53 => ?_)
              have z54 := any_r x49
              have t55 := ti_add e53 (by omega) (by omega)
              have z56 := any_r x41
              have z57 := any_r x52
              refine ur_if2 rfl (fun c58 => ?_) (fun c58 => ?_)
              · have t59 := le_to c58
                refine ur_push rfl ?_
                exact ur_ret rfl rfl (hQ _ _ ⟨_, rfl, Or.inl ⟨by omega, by omega, by omega⟩⟩ hO45 (hu27.tr (hu35.tr hu45)) ⟨fun _ => ⟨h27, h35, x17, hO27, w28, by omega, w36, px46.1, (by rw [show (60 * a1.toInt).toNat + 60 = iN x41 by unfold iN; omega]; exact px46.2)⟩, fun q => absurd (by omega) q⟩)
              · have t60 := le_no c58
                refine ur_ldA rfl rfl ?_
                obtain ⟨fs61, hc62⟩ := hO45.mod
                refine ur_get rfl hc62 (mf_67 hO45 hc62) ?_
                refine ur_ldI rfl rfl ?_
                refine ur_push rfl ?_
                obtain ⟨xs64, hc63, hn65⟩ := hO45.lon (hO45.fix 112 (by decide) rfl)
                refine ur_astJV (W := [110, 111, 112]) (m := 360) rfl hO45 hc63 hn65 (by omega) (Or.inr (Or.inr (wid_fix (by decide) (by decide)))) (fun h69 hO69 hu69 d67 hc68 => ?_)
                have w70 : wJ h45 h69 112 ((arJ h45 112).set (x41 : Int32).toInt.toNat 0) := ⟨by rw [arJ_of hc68, arJ_of hc63], d67⟩
                refine ur_incV (fun z => [some (.inr (.inr (some 69))), some (.inl a1), some (.inl a2), some (.inl a3), some (.inl z)]) rfl rfl (fun _ => rfl) (fun x71 e72 => ?_)
                have t73 := ti_add e72 (by omega) (by omega)
                refine ur_go rfl ?_
                have z74 := any_r x71
                exact ih44 x71 _ hO69 (hu45.tr hu69) (by omega) ⟨fun b hb => (w70.2 b hb).trans (px46.1 b hb), zz_s px46.2 w70.1 (by unfold iN; omega) (by unfold iN; omega) (by rw [arJ_len hO45 (by decide) rfl]; omega)⟩ (by omega)
          have z75 := any_r x37
          exact L42 _ x37 _ hO35 un.rf (by omega) ⟨fun _ _ => rfl, zz_0 (by unfold iN; omega)⟩ (Nat.lt_succ_self _)
        · have t76 := le_no c13
          refine ur_push rfl ?_
          exact ur_ret rfl rfl (hQ _ _ ⟨_, rfl, Or.inr (Or.inl ⟨by omega, by omega, by omega⟩)⟩ hO0 un.rf ⟨fun q => by exfalso; omega, fun _ => rfl⟩)
      · have t77 := le_no c11
        refine ur_push rfl ?_
        exact ur_ret rfl rfl (hQ _ _ ⟨_, rfl, Or.inr (Or.inr ⟨by omega, by omega⟩)⟩ hO0 un.rf ⟨fun q => by exfalso; omega, fun _ => rfl⟩)

set_option maxRecDepth 20000 in
set_option maxHeartbeats 4000000 in
theorem sd_X12_shift {d kc ks : Nat} {h0 : aH} {Q : Option aV → aH → Prop} (hO0 : OK h0) (a1 : Int32) (a2 : Int32) (a3 : Int32) (a4 : Int32) (a5 : Int32) (hQ : ∀ r h', (∃ x : Int32, r = some (.inl x) ∧ (¬ ((0 ≤ a1.toInt ∧ a1.toInt ≤ 5) ∧ (0 ≤ a3.toInt ∧ a3.toInt ≤ 5)) ∧ x.toInt = -1 ∨ ((0 ≤ a1.toInt ∧ a1.toInt ≤ 5) ∧ (0 ≤ a3.toInt ∧ a3.toInt ≤ 5)) ∧ (gI h0 110 a1.toInt = -1 ∨ gI h0 110 a3.toInt = -1) ∧ x.toInt = -11 ∨ ((0 ≤ a1.toInt ∧ a1.toInt ≤ 5) ∧ (0 ≤ a3.toInt ∧ a3.toInt ≤ 5)) ∧ ¬ (gI h0 110 a1.toInt = -1 ∨ gI h0 110 a3.toInt = -1) ∧ ¬ (gI h0 110 a1.toInt ≤ -2 ∧ gI h0 110 a1.toInt = gI h0 110 a3.toInt) ∧ x.toInt = -12 ∨ (((0 ≤ a1.toInt ∧ a1.toInt ≤ 5) ∧ (0 ≤ a3.toInt ∧ a3.toInt ≤ 5)) ∧ gI h0 110 a1.toInt ≤ -2 ∧ gI h0 110 a1.toInt = gI h0 110 a3.toInt) ∧ ¬ ((((0 ≤ a1.toInt ∧ a1.toInt ≤ 5) ∧ (0 ≤ a3.toInt ∧ a3.toInt ≤ 5)) ∧ gI h0 110 a1.toInt ≤ -2 ∧ gI h0 110 a1.toInt = gI h0 110 a3.toInt) ∧ 0 ≤ a5.toInt ∧ 0 ≤ a2.toInt ∧ 0 ≤ a4.toInt ∧ a2.toInt ≤ gI h0 111 a1.toInt - a5.toInt ∧ a4.toInt ≤ gI h0 111 a3.toInt - a5.toInt) ∧ x.toInt = -13 ∨ ((((0 ≤ a1.toInt ∧ a1.toInt ≤ 5) ∧ (0 ≤ a3.toInt ∧ a3.toInt ≤ 5)) ∧ gI h0 110 a1.toInt ≤ -2 ∧ gI h0 110 a1.toInt = gI h0 110 a3.toInt) ∧ 0 ≤ a5.toInt ∧ 0 ≤ a2.toInt ∧ 0 ≤ a4.toInt ∧ a2.toInt ≤ gI h0 111 a1.toInt - a5.toInt ∧ a4.toInt ≤ gI h0 111 a3.toInt - a5.toInt) ∧ x.toInt = a5.toInt)) → OK h' → un [112] h0 h' → ((((((0 ≤ a1.toInt ∧ a1.toInt ≤ 5) ∧ (0 ≤ a3.toInt ∧ a3.toInt ≤ 5)) ∧ gI h0 110 a1.toInt ≤ -2 ∧ gI h0 110 a1.toInt = gI h0 110 a3.toInt) ∧ 0 ≤ a5.toInt ∧ 0 ≤ a2.toInt ∧ 0 ≤ a4.toInt ∧ a2.toInt ≤ gI h0 111 a1.toInt - a5.toInt ∧ a4.toInt ≤ gI h0 111 a3.toInt - a5.toInt) → (∀ b, b ≠ 112 → b ≠ 113 → h'[b]? = h0[b]?) ∧ ∀ n : Nat, (arJ h' 112).getD n 0 = if (60 * a3.toInt + a4.toInt).toNat ≤ n ∧ n < (60 * a3.toInt + a4.toInt).toNat + a5.toInt.toNat then (arJ h0 112).getD ((60 * a1.toInt + a2.toInt).toNat + (n - (60 * a3.toInt + a4.toInt).toNat)) 0 else (arJ h0 112).getD n 0) ∧ (¬ ((((0 ≤ a1.toInt ∧ a1.toInt ≤ 5) ∧ (0 ≤ a3.toInt ∧ a3.toInt ≤ 5)) ∧ gI h0 110 a1.toInt ≤ -2 ∧ gI h0 110 a1.toInt = gI h0 110 a3.toInt) ∧ 0 ≤ a5.toInt ∧ 0 ≤ a2.toInt ∧ 0 ≤ a4.toInt ∧ a2.toInt ≤ gI h0 111 a1.toInt - a5.toInt ∧ a4.toInt ≤ gI h0 111 a3.toInt - a5.toInt) → h' = h0)) → Q r h') : uCall Mt (d + 3) 302 [(.inr (.inr (some 69))), (.inl a1), (.inl a2), (.inl a3), (.inl a4), (.inl a5)] h0 kc ks Q := by
  have l_m13 : ((-13) : Int32).toInt = -13 := by decide
  have l_m12 : ((-12) : Int32).toInt = -12 := by decide
  have l_m11 : ((-11) : Int32).toInt = -11 := by decide
  have l_m1 : ((-1) : Int32).toInt = -1 := by decide
  have l_0 : ((0) : Int32).toInt = 0 := by decide
  have l_1 : ((1) : Int32).toInt = 1 := by decide
  have l_5 : ((5) : Int32).toInt = 5 := by decide
  have l_60 : ((60) : Int32).toInt = 60 := by decide
  refine uc_ink [some (.inr (.inr (some 69))), some (.inl a1), some (.inl a2), some (.inl a3), some (.inl a4), some (.inl a5), none] mt_302 (Nat.le_of_ble_eq_true rfl) rfl ?_
  refine ur_ldI rfl rfl ?_
  refine ur_callv rfl rfl (Nat.le_of_ble_eq_true rfl) (Nat.le_of_ble_eq_true rfl) rfl (sq_isShf _ _) ?_
  refine ur_eqB rfl (fun c3 => ?_) (fun c3 => ?_)
  · have t4 := wi_noL c3 l_0 l_5
    refine ur_push rfl ?_
    exact ur_ret rfl rfl (hQ _ _ ⟨_, rfl, Or.inl ⟨by omega, by omega⟩⟩ hO0 un.rf ⟨fun q => by exfalso; omega, fun _ => rfl⟩)
  · have t5 := wi_toL c3 l_0 l_5
    refine ur_ldI rfl rfl ?_
    refine ur_callv rfl rfl (Nat.le_of_ble_eq_true rfl) (Nat.le_of_ble_eq_true rfl) rfl (sq_isShf _ _) ?_
    refine ur_neB rfl (fun c8 => ?_) (fun c8 => ?_)
    · have t9 := wi_toL c8 l_0 l_5
      refine ur_ldA rfl rfl ?_
      obtain ⟨fs10, hc11⟩ := hO0.mod
      refine ur_get rfl hc11 (mf_65 hO0 hc11) ?_
      refine ur_ldI rfl rfl ?_
      obtain ⟨xs13, hc12, hn14, he15⟩ := hO0.int (hO0.fix 110 (by decide) rfl)
      refine ur_aldV rfl hc12 hn14 (by omega) (fun x16 hx17 => ?_)
      have t18 := gI_of (j := a1) hc12 hx17
      have t19 : -6 ≤ x16.toInt ∧ x16.toInt ≤ 149 := he15 _ _ hx17
      refine ur_push rfl ?_
      refine ur_if2 rfl (fun c20 => ?_) (fun c20 => ?_)
      · have t21 := eq_to c20
        refine ur_push rfl ?_
        exact ur_ret rfl rfl (hQ _ _ ⟨_, rfl, Or.inr (Or.inl ⟨by omega, by omega, by omega⟩)⟩ hO0 un.rf ⟨fun q => by exfalso; omega, fun _ => rfl⟩)
      · have t22 := eq_no c20
        refine ur_ldA rfl rfl ?_
        refine ur_get rfl hc11 (mf_65 hO0 hc11) ?_
        refine ur_ldI rfl rfl ?_
        refine ur_aldV rfl hc12 hn14 (by omega) (fun x23 hx24 => ?_)
        have t25 := gI_of (j := a3) hc12 hx24
        have t26 : -6 ≤ x23.toInt ∧ x23.toInt ≤ 149 := he15 _ _ hx24
        refine ur_push rfl ?_
        refine ur_if2 rfl (fun c27 => ?_) (fun c27 => ?_)
        · have t28 := ne_to c27
          refine ur_ldA rfl rfl ?_
          refine ur_get rfl hc11 (mf_65 hO0 hc11) ?_
          refine ur_ldI rfl rfl ?_
          refine ur_aldV rfl hc12 hn14 (by omega) (fun x29 hx30 => ?_)
          obtain rfl : x16 = x29 := Option.some.inj (hx17.symm.trans hx30)
          refine ur_if1 rfl (fun c31 => ?_) (fun c31 => ?_)
          · have t32 := le_to c31
            refine ur_push rfl ?_
            exact ur_ret rfl rfl (hQ _ _ ⟨_, rfl, Or.inr (Or.inr (Or.inl ⟨by omega, by omega, by omega, by omega⟩))⟩ hO0 un.rf ⟨fun q => by exfalso; omega, fun _ => rfl⟩)
          · have t33 := le_no c31
            refine ur_ldA rfl rfl ?_
            refine ur_get rfl hc11 (mf_65 hO0 hc11) ?_
            refine ur_ldI rfl rfl ?_
            refine ur_aldV rfl hc12 hn14 (by omega) (fun x34 hx35 => ?_)
            obtain rfl : x16 = x34 := Option.some.inj (hx17.symm.trans hx35)
            refine ur_ldA rfl rfl ?_
            refine ur_get rfl hc11 (mf_65 hO0 hc11) ?_
            refine ur_ldI rfl rfl ?_
            refine ur_aldV rfl hc12 hn14 (by omega) (fun x36 hx37 => ?_)
            obtain rfl : x23 = x36 := Option.some.inj (hx24.symm.trans hx37)
            have z38 := any_r x16
            have z39 := any_r x23
            refine ur_if2 rfl (fun c40 => ?_) (fun c40 => ?_)
            · have t41 := eq_to c40
              refine ur_ldI rfl rfl ?_
              refine ur_if1 rfl (fun c42 => ?_) (fun c42 => ?_)
              · have t43 := lt_to c42
                refine ur_push rfl ?_
                exact ur_ret rfl rfl (hQ _ _ ⟨_, rfl, Or.inr (Or.inr (Or.inr (Or.inl ⟨by omega, by omega, by omega⟩)))⟩ hO0 un.rf ⟨fun q => by exfalso; omega, fun _ => rfl⟩)
              · have t44 := lt_no c42
                refine ur_ldI rfl rfl ?_
                refine ur_if1 rfl (fun c45 => ?_) (fun c45 => ?_)
                · have t46 := lt_to c45
                  refine ur_push rfl ?_
                  exact ur_ret rfl rfl (hQ _ _ ⟨_, rfl, Or.inr (Or.inr (Or.inr (Or.inl ⟨by omega, by omega, by omega⟩)))⟩ hO0 un.rf ⟨fun q => by exfalso; omega, fun _ => rfl⟩)
                · have t47 := lt_no c45
                  refine ur_ldI rfl rfl ?_
                  refine ur_if1 rfl (fun c48 => ?_) (fun c48 => ?_)
                  · have t49 := lt_to c48
                    refine ur_push rfl ?_
                    exact ur_ret rfl rfl (hQ _ _ ⟨_, rfl, Or.inr (Or.inr (Or.inr (Or.inl ⟨by omega, by omega, by omega⟩)))⟩ hO0 un.rf ⟨fun q => by exfalso; omega, fun _ => rfl⟩)
                  · have t50 := lt_no c48
                    refine ur_ldI rfl rfl ?_
                    refine ur_ldA rfl rfl ?_
                    refine ur_get rfl hc11 (mf_66 hO0 hc11) ?_
                    refine ur_ldI rfl rfl ?_
                    obtain ⟨xs52, hc51, hn53, he54⟩ := hO0.int (hO0.fix 111 (by decide) rfl)
                    refine ur_aldV rfl hc51 hn53 (by omega) (fun x55 hx56 => ?_)
                    have t57 := gI_of (j := a1) hc51 hx56
                    have t58 : 0 ≤ x55.toInt ∧ x55.toInt ≤ 60 := he54 _ _ hx56
                    refine ur_ldI rfl rfl ?_
                    refine ur_binV rfl (fun x59 e60 => ?_)
                    have z61 := any_r x55
                    have z62 := any_r a5
                    have t63 := ti_sub e60 (by omega) (by omega)
                    have z64 := any_r a2
                    have z65 := any_r x59
                    refine ur_if2 rfl (fun c66 => ?_) (fun c66 => ?_)
                    · have t67 := lt_to c66
                      refine ur_push rfl ?_
                      exact ur_ret rfl rfl (hQ _ _ ⟨_, rfl, Or.inr (Or.inr (Or.inr (Or.inl ⟨by omega, by omega, by omega⟩)))⟩ hO0 un.rf ⟨fun q => by exfalso; omega, fun _ => rfl⟩)
                    · have t68 := lt_no c66
                      refine ur_ldI rfl rfl ?_
                      refine ur_ldA rfl rfl ?_
                      refine ur_get rfl hc11 (mf_66 hO0 hc11) ?_
                      refine ur_ldI rfl rfl ?_
                      refine ur_aldV rfl hc51 hn53 (by omega) (fun x69 hx70 => ?_)
                      have t71 := gI_of (j := a3) hc51 hx70
                      have t72 : 0 ≤ x69.toInt ∧ x69.toInt ≤ 60 := he54 _ _ hx70
                      refine ur_ldI rfl rfl ?_
                      refine ur_binV rfl (fun x73 e74 => ?_)
                      have z75 := any_r x69
                      have t76 := ti_sub e74 (by omega) (by omega)
                      have z77 := any_r a4
                      have z78 := any_r x73
                      refine ur_if2 rfl (fun c79 => ?_) (fun c79 => ?_)
                      · have t80 := le_to c79
                        have t81 : 0 ≤ a1.toInt ∧ a1.toInt ≤ 5 := by omega
                        have t82 : 0 ≤ a3.toInt ∧ a3.toInt ≤ 5 := by omega
                        have t83 : 0 ≤ a2.toInt ∧ a2.toInt ≤ 60 := by omega
                        have t84 : 0 ≤ a4.toInt ∧ a4.toInt ≤ 60 := by omega
                        have t85 : 0 ≤ a5.toInt ∧ a5.toInt ≤ 60 := by omega
                        refine ur_push rfl ?_
                        refine ur_svIk [some (.inr (.inr (some 69))), some (.inl a1), some (.inl a2), some (.inl a3), some (.inl a4), some (.inl a5), some (.inl 0)] rfl rfl ?_
                        have L87 : ∀ (m88 : Nat) (x86 : Int32) (h90 : aH) , OK h90 → un [112] h0 h90 → ((0 ≤ x86.toInt ∧ x86.toInt ≤ 60) ∧ x86.toInt ≤ a5.toInt) → ((∀ b, b ≠ 113 → h90[b]? = h0[b]?) ∧ c1 (arJ h0 112) (arJ h90 113) (60 * a1.toInt + a2.toInt).toNat (iN x86)) → ((61 - x86.toInt).toNat) < m88 → uRun oX12_shift (uCall Mt (d + 2)) Q 113 ([some (.inr (.inr (some 69))), some (.inl a1), some (.inl a2), some (.inl a3), some (.inl a4), some (.inl a5), some (.inl x86)], [], h90, kc, ks) := by
                          intro m88
                          induction m88 with
                          | zero => intro x86 h90 hO90 hu90 iv92 px91 mm93; omega
                          | succ m88 ih89 =>
                            intro x86 h90 hO90 hu90 iv92 px91 mm93
                            refine ur_ldI rfl rfl ?_
                            refine ur_ldI rfl rfl ?_
                            have z94 := any_r x86
                            refine ur_if2 rfl (fun c95 => ?_) (fun c95 => ?_)
                            · have t96 := le_to c95
                              refine ur_push rfl ?_
                              refine ur_svIk [some (.inr (.inr (some 69))), some (.inl a1), some (.inl a2), some (.inl a3), some (.inl a4), some (.inl a5), some (.inl 0)] rfl rfl ?_
                              have L98 : ∀ (m99 : Nat) (x97 : Int32) (h101 : aH) , OK h101 → un [112] h90 h101 → ((0 ≤ x97.toInt ∧ x97.toInt ≤ 60) ∧ x97.toInt ≤ a5.toInt) → ((∀ b, b ≠ 112 → h101[b]? = h90[b]?) ∧ c2 (arJ h90 113) (arJ h90 112) (arJ h101 112) (60 * a3.toInt + a4.toInt).toNat (iN x97)) → ((61 - x97.toInt).toNat) < m99 → uRun oX12_shift (uCall Mt (d + 2)) Q 150 ([some (.inr (.inr (some 69))), some (.inl a1), some (.inl a2), some (.inl a3), some (.inl a4), some (.inl a5), some (.inl x97)], [], h101, kc, ks) := by
                                intro m99
                                induction m99 with
                                | zero => intro x97 h101 hO101 hu101 iv103 px102 mm104; omega
                                | succ m99 ih100 =>
                                  intro x97 h101 hO101 hu101 iv103 px102 mm104
                                  refine ur_ldI rfl rfl ?_
                                  refine ur_ldI rfl rfl ?_
                                  have z105 := any_r x97
                                  refine ur_if2 rfl (fun c106 => ?_) (fun c106 => ?_)
                                  · have t107 := le_to c106
                                    refine ur_ldI rfl rfl ?_
                                    exact ur_ret rfl rfl (hQ _ _ ⟨_, rfl, Or.inr (Or.inr (Or.inr (Or.inr ⟨by omega, by omega⟩)))⟩ hO101 (hu90.tr hu101) ⟨fun _ => ⟨fun b h1 h2 => (px102.1 b h1).trans (px91.1 b h2), c2_end px102.2 px91.2 (arJ_c (px91.1 112 (by decide))) (by unfold iN; omega) (by unfold iN; omega)⟩, fun q => absurd (by omega) q⟩)
                                  · have t108 := le_no c106
                                    refine ur_ldA rfl rfl ?_
                                    obtain ⟨fs109, hc110⟩ := hO101.mod
                                    refine ur_get rfl hc110 (mf_67 hO101 hc110) ?_
                                    refine ur_push rfl ?_
                                    refine ur_ldI rfl rfl ?_
                                    refine ur_binV rfl (fun x111 e112 => ?_)
                                    have z113 := any_r a3
                                    have t114 := ti_mulR e112 l_60 (by omega) (by omega)
                                    refine ur_ldI rfl rfl ?_
                                    refine ur_binV rfl (fun x115 e116 => ?_)
                                    have z117 := any_r x111
                                    have t118 := ti_add e116 (by omega) (by omega)
                                    refine ur_ldI rfl rfl ?_
                                    refine ur_binV rfl (fun x119 e120 => ?_)
                                    have z121 := any_r x115
                                    have t122 := ti_add e120 (by omega) (by omega)
                                    refine ur_ldA rfl rfl ?_
                                    refine ur_get rfl hc110 (mf_68 hO101 hc110) ?_
                                    refine ur_ldI rfl rfl ?_
                                    obtain ⟨xs124, hc123, hn125⟩ := hO101.lon (hO101.fix 113 (by decide) rfl)
                                    refine ur_aldJV rfl hc123 hn125 (by omega) (fun y127 hx128 => ?_)
                                    have g129 := gL_of (j := x97) hc123 hx128
                                    obtain ⟨xs131, hc130, hn132⟩ := hO101.lon (hO101.fix 112 (by decide) rfl)
                                    refine ur_astJV (W := [112]) (m := 360) rfl hO101 hc130 hn132 (by omega) (Or.inr (Or.inr (wid_fix (by decide) (by decide)))) (fun h136 hO136 hu136 d134 hc135 => ?_)
                                    have w137 : wJ h101 h136 112 ((arJ h101 112).set (x119 : Int32).toInt.toNat y127) := ⟨by rw [arJ_of hc135, arJ_of hc130], d134⟩
                                    refine ur_incV (fun z => [some (.inr (.inr (some 69))), some (.inl a1), some (.inl a2), some (.inl a3), some (.inl a4), some (.inl a5), some (.inl z)]) rfl rfl (fun _ => rfl) (fun x138 e139 => ?_)
                                    have t140 := ti_add e139 (by omega) (by omega)
                                    refine ur_go rfl ?_
                                    have z141 := any_r x138
                                    exact ih100 x138 _ hO136 (hu101.tr hu136) (by omega) ⟨fun b hb => (w137.2 b hb).trans (px102.1 b hb), c2_s px102.2 w137.1 (by rw [← arJ_c (px102.1 113 (by decide))]; exact (gd_gL (by unfold iN; omega) g129)) (by unfold iN; omega) (by unfold iN; omega) (by rw [arJ_len hO101 (by decide) rfl]; omega)⟩ (by omega)
                              exact L98 _ 0 _ hO90 un.rf (by omega) ⟨fun _ _ => rfl, c2_0⟩ (Nat.lt_succ_self _)
                            · have t142 := le_no c95
                              refine ur_ldA rfl rfl ?_
                              obtain ⟨fs143, hc144⟩ := hO90.mod
                              refine ur_get rfl hc144 (mf_68 hO90 hc144) ?_
                              refine ur_ldI rfl rfl ?_
                              refine ur_ldA rfl rfl ?_
                              refine ur_get rfl hc144 (mf_67 hO90 hc144) ?_
                              refine ur_push rfl ?_
                              refine ur_ldI rfl rfl ?_
                              refine ur_binV rfl (fun x145 e146 => ?_)
                              have z147 := any_r a1
                              have t148 := ti_mulR e146 l_60 (by omega) (by omega)
                              refine ur_ldI rfl rfl ?_
                              refine ur_binV rfl (fun x149 e150 => ?_)
                              have z151 := any_r x145
                              have t152 := ti_add e150 (by omega) (by omega)
                              refine ur_ldI rfl rfl ?_
                              refine ur_binV rfl (fun x153 e154 => ?_)
                              have z155 := any_r x149
                              have t156 := ti_add e154 (by omega) (by omega)
                              obtain ⟨xs158, hc157, hn159⟩ := hO90.lon (hO90.fix 112 (by decide) rfl)
                              refine ur_aldJV rfl hc157 hn159 (by omega) (fun y161 hx162 => ?_)
                              have g163 := gL_of (j := x153) hc157 hx162
                              obtain ⟨xs165, hc164, hn166⟩ := hO90.lon (hO90.fix 113 (by decide) rfl)
                              refine ur_astJV (W := [112]) (m := 60) rfl hO90 hc164 hn166 (by omega) (Or.inl rfl) (fun h170 hO170 hu170 d168 hc169 => ?_)
                              have w171 : wJ h90 h170 113 ((arJ h90 113).set (x86 : Int32).toInt.toNat y161) := ⟨by rw [arJ_of hc169, arJ_of hc164], d168⟩
                              refine ur_incV (fun z => [some (.inr (.inr (some 69))), some (.inl a1), some (.inl a2), some (.inl a3), some (.inl a4), some (.inl a5), some (.inl z)]) rfl rfl (fun _ => rfl) (fun x172 e173 => ?_)
                              have t174 := ti_add e173 (by omega) (by omega)
                              refine ur_go rfl ?_
                              have z175 := any_r x172
                              exact ih89 x172 _ hO170 (hu90.tr hu170) (by omega) ⟨fun b hb => (w171.2 b hb).trans (px91.1 b hb), c1_s px91.2 w171.1 (by rw [← arJ_c (px91.1 112 (by decide))]; exact (gd_gL (by unfold iN; omega) g163)) (by unfold iN; omega) (by unfold iN; omega) (by rw [arJ_len hO90 (by decide) rfl]; omega)⟩ (by omega)
                        exact L87 _ 0 _ hO0 un.rf (by omega) ⟨fun _ _ => rfl, c1_0⟩ (Nat.lt_succ_self _)
                      · have t176 := le_no c79
                        refine ur_push rfl ?_
                        exact ur_ret rfl rfl (hQ _ _ ⟨_, rfl, Or.inr (Or.inr (Or.inr (Or.inl ⟨by omega, by omega, by omega⟩)))⟩ hO0 un.rf ⟨fun q => by exfalso; omega, fun _ => rfl⟩)
            · have t177 := eq_no c40
              refine ur_push rfl ?_
              exact ur_ret rfl rfl (hQ _ _ ⟨_, rfl, Or.inr (Or.inr (Or.inl ⟨by omega, by omega, by omega, by omega⟩))⟩ hO0 un.rf ⟨fun q => by exfalso; omega, fun _ => rfl⟩)
        · have t178 := ne_no c27
          refine ur_push rfl ?_
          exact ur_ret rfl rfl (hQ _ _ ⟨_, rfl, Or.inr (Or.inl ⟨by omega, by omega, by omega⟩)⟩ hO0 un.rf ⟨fun q => by exfalso; omega, fun _ => rfl⟩)
    · have t179 := wi_noL c8 l_0 l_5
      refine ur_push rfl ?_
      exact ur_ret rfl rfl (hQ _ _ ⟨_, rfl, Or.inl ⟨by omega, by omega⟩⟩ hO0 un.rf ⟨fun q => by exfalso; omega, fun _ => rfl⟩)
end PGM
