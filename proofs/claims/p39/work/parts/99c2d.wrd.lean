/-! WORDS: how many there are, printed by program but for its head -/
section WRD
theorem NA.un {W : List Nat} {h h' : aH} (hN : NA h) (hO : OK h) (hO' : OK h') (g : un W h h') (h1 : 16 ∉ W) (h2 : 2501 ∉ W) : NA h' := by
  intro i hi
  rw [fO_keep (a := 15) (ci := 1) (n := 11) (k := 1) hO hO' g (by decide) rfl (by decide) rfl h2] at hi
  obtain ⟨z, hz⟩ := hN i hi
  obtain ⟨x, hc, hn, hs⟩ := hO.arr (hO.fix 16 (by decide) rfl) (by decide)
  obtain ⟨xs, rfl, _⟩ : ∃ xs, x = .inr (.inr xs) ∧ _ := hs
  refine ⟨z, ?_⟩
  rw [arR_of (g.ka hc hn (by decide) (by decide) (wid_f (by decide)) h1), ← arR_of hc]
  exact hz
theorem NA_push {h h1 h2 : aH} {kd kd' : Nat} {xs : List (Option Nat)} {j : Int32} {v : Nat} (hN : NA h) (pf : h[16]? = some (.inr (kd, .inr (.inr xs)))) (c : h1[16]? = some (.inr (kd', .inr (.inr (xs.set j.toInt.toNat (some v)))))) (hj : j.toInt = fO h 15 1) (hl : 0 ≤ j.toInt ∧ j.toInt < (150 : Nat)) (e : h2[16]? = h1[16]?) (hf : fO h2 15 1 = fO h 15 1 + 1) (hn : xs.length = 150) : NA h2 := by
  intro i hi
  rw [arR_of (e.trans c)]
  by_cases q : i = j.toInt.toNat
  · subst q
    exact ⟨v, List.getElem?_set_self (by omega)⟩
  · obtain ⟨z, hz⟩ := hN i (by omega)
    rw [arR_of pf] at hz
    exact ⟨z, by rw [List.getElem?_set_ne (fun e => q e.symm)]; exact hz⟩
theorem fO_kw {W : List Nat} {h h' : aH} {a k : Nat} (hO : OK h) (hO' : OK h') (g : un W h h') (ga : 114 ≤ a) (t : tg h a = (110, 13)) (h1 : scr 10 k = false) (h2 : 22000 + k ∉ W) : fO h' a k = fO h a k := by
  obtain ⟨fs, c1, e1, -⟩ := hO.obj (ci := 10) (n := 13) t (by decide)
  obtain ⟨gs, c2, e2, -⟩ := hO'.obj (ci := 10) (n := 13) (g.tm t (by decide)) (by decide)
  have e := g.fe c1 c2 k (wid_w ga) h1 h2
  unfold fO
  rw [c1, c2]
  show (match gs[k]? with
    | some (Sum.inl x) => x.toInt
    | _ => 0) = (match fs[k]? with
    | some (Sum.inl x) => x.toInt
    | _ => 0)
  rw [e]
def fl (h : aH) (a : Nat) (j : Int) : Int := (gL h a j).toInt32.toInt
theorem fl_of {h : aH} {a : Nat} {j k : Int} {y : Int64} {x : Int32} (e : k = j) (g : y = gL h a k) (q : y.toInt32 = x) : fl h a j = x.toInt := by
  unfold fl
  rw [← e, ← g, q]
variable {d : Nat} {T : aTab} {Q : Option aV → aH → Prop} {pc : Nat} {al : aL} {st : List aV} {h : aH} {kc ks n i : Nat}
theorem sd_newWord (hO : OK h) (nu ki pe re sl : Int32) (hr : (0 ≤ nu.toInt ∧ nu.toInt ≤ 149) ∧ (0 ≤ ki.toInt ∧ ki.toInt ≤ 7) ∧ (0 ≤ pe.toInt ∧ pe.toInt ≤ 8) ∧ -1 ≤ re.toInt ∧ re.toInt ≤ 19) (hQ : ∀ r h', r = none → OK h' → un [9010] h h' → (114 ≤ h.length ∧ tg h' h.length = (110, 13)) → nW h' ≤ nW h + 1 → h' = h ++ [.inl (10, [.inl nu, .inl ki, .inl pe, .inl re, .inl sl, .inl 0, .inl 0, .inl 0, .inl (-1), .inr (.inr none), .inl 0, .inl 0, .inl 0])] → Q r h') : uCall Mt (d + 1) 114 [.inr (.inr (some (h.length + 0))), .inl nu, .inl ki, .inl pe, .inl re, .inl sl] (h ++ [.inl (10, [.inl 0, .inl 0, .inl 0, .inl 0, .inl 0, .inl 0, .inl 0, .inl 0, .inl 0, .inr (.inr none), .inl 0, .inl 0, .inl 0])]) kc ks Q := by
  have hl := hO.len
  have a3 : tg (h ++ [.inl (10, [.inl nu, .inl ki, .inl pe, .inl re, .inl sl, .inl 0, .inl 0, .inl 0, .inl (-1), .inr (.inr none), .inl 0, .inl 0, .inl 0])]) h.length = (110, 13) := (ap_tg (h := h) (L := [.inl (10, [.inl nu, .inl ki, .inl pe, .inl re, .inl sl, .inl 0, .inl 0, .inl 0, .inl (-1), .inr (.inr none), .inl 0, .inl 0, .inl 0])]) (j := 0) rfl).trans rfl
  have a1 : OK (h ++ [.inl (10, [.inl nu, .inl ki, .inl pe, .inl re, .inl sl, .inl 0, .inl 0, .inl 0, .inl (-1), .inr (.inr none), .inl 0, .inl 0, .inl 0])]) := hO.appL (fun j c hc => by
    match j, hc with
    | 0, hc =>
      cases hc
      exact ⟨by omega, _, _, _, _, _, _, _, _, _, none, _, _, _, rfl, (fun z q => nomatch q), by omega⟩
    | j + 1, hc => cases hc)
  have a2 : un [9010] h (h ++ [.inl (10, [.inl nu, .inl ki, .inl pe, .inl re, .inl sl, .inl 0, .inl 0, .inl 0, .inl (-1), .inr (.inr none), .inl 0, .inl 0, .inl 0])]) := un.appL (by show (1 : Int) ≤ 4 * 0 + 0 + 1; omega) (by show (13 : Int) ≤ 385 * 0 + 8712 * 0 + 13 * 1; omega) (Or.inr rfl) (Or.inl (by decide))
  refine uc_ink [some (.inr (.inr (some (h.length + 0)))), some (.inl nu), some (.inl ki), some (.inl pe), some (.inl re), some (.inl sl)] mt_114 (Nat.le_of_ble_eq_true rfl) rfl ?_
  refine ur_ldA rfl rfl ?_
  refine ur_obj rfl (Nat.le_of_ble_eq_true rfl) ?_
  refine ur_ldA rfl rfl ?_
  refine ur_push rfl ?_
  refine ur_putA (i0 := 0) (L' := [.inl (10, [.inl 0, .inl 0, .inl 0, .inl 0, .inl 0, .inl 0, .inl 0, .inl 0, .inl 0, .inr (.inr none), .inl 0, .inl 0, .inl 0])]) rfl rfl (Nat.le_of_ble_eq_true rfl) rfl rfl ?_
  refine ur_ldA rfl rfl ?_
  refine ur_push rfl ?_
  refine ur_putA (i0 := 0) (L' := [.inl (10, [.inl 0, .inl 0, .inl 0, .inl 0, .inl 0, .inl 0, .inl 0, .inl 0, .inl 0, .inr (.inr none), .inl 0, .inl 0, .inl 0])]) rfl rfl (Nat.le_of_ble_eq_true rfl) rfl rfl ?_
  refine ur_ldA rfl rfl ?_
  refine ur_push rfl ?_
  refine ur_putA (i0 := 0) (L' := [.inl (10, [.inl 0, .inl 0, .inl 0, .inl 0, .inl 0, .inl 0, .inl 0, .inl 0, .inl 0, .inr (.inr none), .inl 0, .inl 0, .inl 0])]) rfl rfl (Nat.le_of_ble_eq_true rfl) rfl rfl ?_
  refine ur_ldA rfl rfl ?_
  refine ur_push rfl ?_
  refine ur_putA (i0 := 0) (L' := [.inl (10, [.inl 0, .inl 0, .inl 0, .inl 0, .inl 0, .inl 0, .inl 0, .inl 0, .inl (-1), .inr (.inr none), .inl 0, .inl 0, .inl 0])]) rfl rfl (Nat.le_of_ble_eq_true rfl) rfl rfl ?_
  refine ur_ldA rfl rfl ?_
  refine ur_push rfl ?_
  refine ur_putA (i0 := 0) (L' := [.inl (10, [.inl 0, .inl 0, .inl 0, .inl 0, .inl 0, .inl 0, .inl 0, .inl 0, .inl (-1), .inr (.inr none), .inl 0, .inl 0, .inl 0])]) rfl rfl (Nat.le_of_ble_eq_true rfl) rfl rfl ?_
  refine ur_ldA rfl rfl ?_
  refine ur_push rfl ?_
  refine ur_putA (i0 := 0) (L' := [.inl (10, [.inl 0, .inl 0, .inl 0, .inl 0, .inl 0, .inl 0, .inl 0, .inl 0, .inl (-1), .inr (.inr none), .inl 0, .inl 0, .inl 0])]) rfl rfl (Nat.le_of_ble_eq_true rfl) rfl rfl ?_
  refine ur_ldA rfl rfl ?_
  refine ur_push rfl ?_
  refine ur_putA (i0 := 0) (L' := [.inl (10, [.inl 0, .inl 0, .inl 0, .inl 0, .inl 0, .inl 0, .inl 0, .inl 0, .inl (-1), .inr (.inr none), .inl 0, .inl 0, .inl 0])]) rfl rfl (Nat.le_of_ble_eq_true rfl) rfl rfl ?_
  refine ur_ldA rfl rfl ?_
  refine ur_push rfl ?_
  refine ur_putA (i0 := 0) (L' := [.inl (10, [.inl 0, .inl 0, .inl 0, .inl 0, .inl 0, .inl 0, .inl 0, .inl 0, .inl (-1), .inr (.inr none), .inl 0, .inl 0, .inl 0])]) rfl rfl (Nat.le_of_ble_eq_true rfl) rfl rfl ?_
  refine ur_ldA rfl rfl ?_
  refine ur_ldI rfl rfl ?_
  refine ur_putA (i0 := 0) (L' := [.inl (10, [.inl nu, .inl 0, .inl 0, .inl 0, .inl 0, .inl 0, .inl 0, .inl 0, .inl (-1), .inr (.inr none), .inl 0, .inl 0, .inl 0])]) rfl rfl (Nat.le_of_ble_eq_true rfl) rfl rfl ?_
  refine ur_ldA rfl rfl ?_
  refine ur_ldI rfl rfl ?_
  refine ur_putA (i0 := 0) (L' := [.inl (10, [.inl nu, .inl ki, .inl 0, .inl 0, .inl 0, .inl 0, .inl 0, .inl 0, .inl (-1), .inr (.inr none), .inl 0, .inl 0, .inl 0])]) rfl rfl (Nat.le_of_ble_eq_true rfl) rfl rfl ?_
  refine ur_ldA rfl rfl ?_
  refine ur_ldI rfl rfl ?_
  refine ur_putA (i0 := 0) (L' := [.inl (10, [.inl nu, .inl ki, .inl pe, .inl 0, .inl 0, .inl 0, .inl 0, .inl 0, .inl (-1), .inr (.inr none), .inl 0, .inl 0, .inl 0])]) rfl rfl (Nat.le_of_ble_eq_true rfl) rfl rfl ?_
  refine ur_ldA rfl rfl ?_
  refine ur_ldI rfl rfl ?_
  refine ur_putA (i0 := 0) (L' := [.inl (10, [.inl nu, .inl ki, .inl pe, .inl re, .inl 0, .inl 0, .inl 0, .inl 0, .inl (-1), .inr (.inr none), .inl 0, .inl 0, .inl 0])]) rfl rfl (Nat.le_of_ble_eq_true rfl) rfl rfl ?_
  refine ur_ldA rfl rfl ?_
  refine ur_ldI rfl rfl ?_
  refine ur_putA (i0 := 0) (L' := [.inl (10, [.inl nu, .inl ki, .inl pe, .inl re, .inl sl, .inl 0, .inl 0, .inl 0, .inl (-1), .inr (.inr none), .inl 0, .inl 0, .inl 0])]) rfl rfl (Nat.le_of_ble_eq_true rfl) rfl rfl ?_
  exact ur_ret0 rfl (hQ _ _ rfl a1 a2 ⟨hO.len, a3⟩ (nW_app1 rfl) (by rfl))
set_option maxRecDepth 20000 in
set_option maxHeartbeats 4000000 in
theorem sd_X1_isToldReign {d kc ks : Nat} {h0 : aH} {Q : Option aV → aH → Prop} (hO0 : OK h0) (a1 : Int32) (hQ : ∀ r, (∃ q, r = some (.inl (bi q)) ∧ (q = true → ((0 ≤ a1.toInt ∧ a1.toInt ≤ 19) ∧ gI h0 17 a1.toInt ≠ -1)) ∧ (q = false → ¬ ((0 ≤ a1.toInt ∧ a1.toInt ≤ 19) ∧ gI h0 17 a1.toInt ≠ -1))) → Q r h0) : uCall Mt (d + 2) 9 [(.inr (.inr (some 15))), (.inl a1)] h0 kc ks Q := by
  have l_m1 : ((-1) : Int32).toInt = -1 := by decide
  have l_0 : ((0) : Int32).toInt = 0 := by decide
  have l_1 : ((1) : Int32).toInt = 1 := by decide
  have l_19 : ((19) : Int32).toInt = 19 := by decide
  refine uc_ink [some (.inr (.inr (some 15))), some (.inl a1)] mt_9 (Nat.le_of_ble_eq_true rfl) rfl ?_
  refine ur_ldI rfl rfl ?_
  refine ur_push rfl ?_
  refine ur_push rfl ?_
  refine ur_callv rfl rfl (Nat.le_of_ble_eq_true rfl) (Nat.le_of_ble_eq_true rfl) rfl (sp_within _ _ _ _ _) ?_
  refine ur_eqB rfl (fun c3 => ?_) (fun c3 => ?_)
  · have t4 := wi_noL c3 l_0 l_19
    refine ur_push rfl ?_
    exact ur_ret rfl rfl (hQ _ ⟨false, rfl, fun e => absurd e (by decide), fun _ => by omega⟩ )
  · have t5 := wi_toL c3 l_0 l_19
    refine ur_ldA rfl rfl ?_
    obtain ⟨f7, f8, f9, f10, hc6, k11⟩ := ok_15 hO0
    refine ur_get rfl hc6 rfl ?_
    refine ur_ldI rfl rfl ?_
    obtain ⟨xs13, hc12, hn14, he15⟩ := hO0.int (hO0.fix 17 (by decide) rfl)
    refine ur_aldV rfl hc12 hn14 (by omega) (fun x16 hx17 => ?_)
    have t18 := gI_of (j := a1) hc12 hx17
    refine ur_push rfl ?_
    refine ur_if2 rfl (fun c19 => ?_) (fun c19 => ?_)
    · have t20 := eq_to c19
      refine ur_push rfl ?_
      exact ur_ret rfl rfl (hQ _ ⟨false, rfl, fun e => absurd e (by decide), fun _ => by omega⟩ )
    · have t21 := eq_no c19
      refine ur_push rfl ?_
      refine ur_go rfl ?_
      exact ur_ret rfl rfl (hQ _ ⟨true, rfl, fun _ => by omega, fun e => absurd e (by decide)⟩ )

set_option maxRecDepth 20000 in
set_option maxHeartbeats 4000000 in
theorem sd_X1_canBear {d kc ks : Nat} {h0 : aH} {Q : Option aV → aH → Prop} (hO0 : OK h0) (a1 : Int32) (a2 : Int32) (pre0 : NA h0) (hQ : ∀ r, (∃ q, r = some (.inl (bi q)) ∧ (q = true → ((a1.toInt = 1 ∨ a1.toInt = 6 → 0 ≤ a2.toInt ∧ a2.toInt ≤ 23) ∧ (a1.toInt = 2 ∨ a1.toInt = 7 → 0 ≤ a2.toInt ∧ a2.toInt ≤ 1) ∧ (a1.toInt = 3 → 0 ≤ a2.toInt ∧ a2.toInt < fO h0 15 1))) ∧ (q = false → ¬ ((a1.toInt = 1 ∨ a1.toInt = 6 → 0 ≤ a2.toInt ∧ a2.toInt ≤ 23) ∧ (a1.toInt = 2 ∨ a1.toInt = 7 → 0 ≤ a2.toInt ∧ a2.toInt ≤ 1) ∧ (a1.toInt = 3 → 0 ≤ a2.toInt ∧ a2.toInt < fO h0 15 1)))) → Q r h0) : uCall Mt (d + 2) 10 [(.inr (.inr (some 15))), (.inl a1), (.inl a2)] h0 kc ks Q := by
  have l_0 : ((0) : Int32).toInt = 0 := by decide
  have l_1 : ((1) : Int32).toInt = 1 := by decide
  have l_23 : ((23) : Int32).toInt = 23 := by decide
  refine uc_ink [some (.inr (.inr (some 15))), some (.inl a1), some (.inl a2)] mt_10 (Nat.le_of_ble_eq_true rfl) rfl ?_
  obtain ⟨f2, f3, f4, f5, hc1, k6⟩ := ok_15 hO0
  have t7 := fO_of (k := 1) hc1 rfl
  refine ur_ldI rfl rfl ?_
  rcases (show (a1.toInt < 1 ∨ 7 < a1.toInt) ∨ a1.toInt = 1 ∨ a1.toInt = 2 ∨ a1.toInt = 3 ∨ a1.toInt = 4 ∨ a1.toInt = 5 ∨ a1.toInt = 6 ∨ a1.toInt = 7 by omega) with t8 | t8 | t8 | t8 | t8 | t8 | t8 | t8
  · refine ur_tabO rfl (by show a1.toInt < 1 ∨ 1 + 7 ≤ a1.toInt; omega) ?_
    refine ur_push rfl ?_
    exact ur_ret rfl rfl (hQ _ ⟨true, rfl, fun _ => by omega, fun e => absurd e (by decide)⟩ )
  · refine ur_tabI rfl (by omega) (by rw [t8]; rfl) ?_
    refine ur_ldI rfl rfl ?_
    refine ur_push rfl ?_
    refine ur_push rfl ?_
    refine ur_callv rfl rfl (Nat.le_of_ble_eq_true rfl) (Nat.le_of_ble_eq_true rfl) rfl (sp_within _ _ _ _ _) ?_
    exact ur_ret rfl (bi_ret _) (hQ _ ⟨_, rfl, fun w => by have w := wi_to w; omega, fun w => by have w := wi_no w; omega⟩ )
  · refine ur_tabI rfl (by omega) (by rw [t8]; rfl) ?_
    refine ur_ldI rfl rfl ?_
    refine ur_push rfl ?_
    refine ur_push rfl ?_
    refine ur_callv rfl rfl (Nat.le_of_ble_eq_true rfl) (Nat.le_of_ble_eq_true rfl) rfl (sp_within _ _ _ _ _) ?_
    exact ur_ret rfl (bi_ret _) (hQ _ ⟨_, rfl, fun w => by have w := wi_to w; omega, fun w => by have w := wi_no w; omega⟩ )
  · refine ur_tabI rfl (by omega) (by rw [t8]; rfl) ?_
    refine ur_ldA rfl rfl ?_
    refine ur_ldI rfl rfl ?_
    refine ur_inl rfl (rcv_of hc1) (Nat.le_of_ble_eq_true rfl) (Nat.le_of_ble_eq_true rfl) (sd_X1_wordAt hO0 _ pre0 (fun w13 hr14 => ?_))
    obtain ⟨o15, rfl, k16, t17, t18⟩ := hr14
    show uRun _ (uCall Mt _) _ 64 (_, [(.inr (.inr o15))], _, _, _)
    cases o15 with
    | none =>
      refine ur_nulN rfl ?_
      have t20 := t17 rfl
      refine ur_push rfl ?_
      exact ur_ret rfl rfl (hQ _ ⟨false, rfl, fun e => absurd e (by decide), fun _ => by omega⟩ )
    | some r19 =>
      refine ur_nulS rfl ?_
      have k21 := k16 _ rfl
      have t22 := t18 _ rfl
      refine ur_push rfl ?_
      refine ur_go rfl ?_
      exact ur_ret rfl rfl (hQ _ ⟨true, rfl, fun _ => by omega, fun e => absurd e (by decide)⟩ )
  · refine ur_tabI rfl (by omega) (by rw [t8]; rfl) ?_
    refine ur_push rfl ?_
    exact ur_ret rfl rfl (hQ _ ⟨true, rfl, fun _ => by omega, fun e => absurd e (by decide)⟩ )
  · refine ur_tabI rfl (by omega) (by rw [t8]; rfl) ?_
    refine ur_push rfl ?_
    exact ur_ret rfl rfl (hQ _ ⟨true, rfl, fun _ => by omega, fun e => absurd e (by decide)⟩ )
  · refine ur_tabI rfl (by omega) (by rw [t8]; rfl) ?_
    refine ur_ldI rfl rfl ?_
    refine ur_push rfl ?_
    refine ur_push rfl ?_
    refine ur_callv rfl rfl (Nat.le_of_ble_eq_true rfl) (Nat.le_of_ble_eq_true rfl) rfl (sp_within _ _ _ _ _) ?_
    exact ur_ret rfl (bi_ret _) (hQ _ ⟨_, rfl, fun w => by have w := wi_to w; omega, fun w => by have w := wi_no w; omega⟩ )
  · refine ur_tabI rfl (by omega) (by rw [t8]; rfl) ?_
    refine ur_ldI rfl rfl ?_
    refine ur_push rfl ?_
    refine ur_push rfl ?_
    refine ur_callv rfl rfl (Nat.le_of_ble_eq_true rfl) (Nat.le_of_ble_eq_true rfl) rfl (sp_within _ _ _ _ _) ?_
    exact ur_ret rfl (bi_ret _) (hQ _ ⟨_, rfl, fun w => by have w := wi_to w; omega, fun w => by have w := wi_no w; omega⟩ )

set_option maxRecDepth 20000 in
set_option maxHeartbeats 4000000 in
theorem sd_X1_addWord {d kc ks : Nat} {h0 : aH} {Q : Option aV → aH → Prop} (hO0 : OK h0) {a1 : Nat} (g1 : 114 ≤ a1) (t1 : tg h0 a1 = (110, 13)) (a2 : Int32) (pre0 : NA h0) (pre1 : fO h0 15 1 ≤ 149) (pre2 : fO h0 a1 1 = 3 → 0 ≤ a2.toInt ∧ a2.toInt < fO h0 15 1) (hQ : ∀ r h', (∃ x : Int32, r = some (.inl x) ∧ (x.toInt = fO h0 15 1 ∧ fO h' 15 1 = fO h0 15 1 + 1)) → OK h' → un [16, 2501, 22008, 22009, 22010, 22011, 22012] h0 h' → (nW h' ≤ nW h0 + 0) → (NA h') → Q r h') : uCall Mt (d + 6) 11 [(.inr (.inr (some 15))), (.inr (.inr (some a1))), (.inl a2)] h0 kc ks Q := by
  have l_0 : ((0) : Int32).toInt = 0 := by decide
  have l_1 : ((1) : Int32).toInt = 1 := by decide
  have l_3 : ((3) : Int32).toInt = 3 := by decide
  have l_4 : ((4) : Int32).toInt = 4 := by decide
  have l_5 : ((5) : Int32).toInt = 5 := by decide
  have l_150 : ((150) : Int32).toInt = 150 := by decide
  refine uc_ink [some (.inr (.inr (some 15))), some (.inr (.inr (some a1))), some (.inl a2), none] mt_11 (Nat.le_of_ble_eq_true rfl) rfl ?_
  obtain ⟨f2, f3, f4, f5, hc1, k6⟩ := ok_15 hO0
  have t7 := fO_of (k := 1) hc1 rfl
  obtain ⟨g24, f9, f10, f11, f12, f13, f14, f15, f16, f17, o21, f18, f19, f20, hc8, k22, k23⟩ := hO0.word t1
  have t25 := fO_of (k := 1) hc8 rfl
  refine ur_ldA rfl rfl ?_
  refine ur_get rfl hc1 rfl ?_
  refine ur_push rfl ?_
  refine ur_if2 rfl (fun c26 => ?_) (fun c26 => ?_)
  · have t27 := lt_to c26
    refine ur_ldA rfl rfl ?_
    refine ur_get rfl hc8 rfl ?_
    refine ur_if1 rfl (fun c28 => ?_) (fun c28 => ?_)
    · have t29 := eq_to c28
      refine ur_ldA rfl rfl ?_
      refine ur_get rfl hc8 rfl ?_
      refine ur_push rfl ?_
      refine ur_if2 rfl (fun c30 => ?_) (fun c30 => ?_)
      · have t31 := ne_to c30
        refine ur_ldA rfl rfl ?_
        refine ur_get rfl hc1 rfl ?_
        refine ur_ldA rfl rfl ?_
        refine ur_get rfl hc1 rfl ?_
        refine ur_ldA rfl rfl ?_
        obtain ⟨xs33, hc32, hn34, he35⟩ := hO0.wor (hO0.fix 16 (by decide) rfl)
        refine ur_astAV (W := [16]) (m := 150) rfl hO0 hc32 hc8 (Or.inr ⟨rfl, g24, t1⟩) hn34 (by omega) (Or.inr (Or.inr (wid_fix (by decide) (by decide)))) (fun h38 hO38 hv38 d36 hc37 => ?_)
        have hu38 : un [16, 2501, 22008, 22009, 22010, 22011, 22012] h0 h38 := hv38.mono (by decide)
        refine ur_ldA rfl rfl ?_
        refine ur_dup rfl rfl ?_
        refine ur_get rfl ((d36 _ (by decide)).trans hc1) rfl ?_
        have t39 := fO_of (k := 1) ((d36 _ (by decide)).trans hc1) rfl
        refine ur_push rfl ?_
        refine ur_binV rfl (fun x40 e41 => ?_)
        have z42 := any_r f2
        have t43 := ti_add e41 (by omega) (by omega)
        refine ur_putV (W := [2501]) (fs' := [(.inr (.inr (some 16))), (.inl x40), (.inl f3), (.inl f4), (.inl f5), (.inr (.inr (some 17))), (.inr (.inr (some 18))), (.inr (.inr (some 19))), (.inr (.inr (some 20))), (.inr (.inr (some 21))), (.inr (.inr (some 22)))]) rfl hO38 ((d36 _ (by decide)).trans hc1) (Nat.le_of_ble_eq_true rfl) rfl rfl ⟨rfl, _, _, _, _, rfl, by omega⟩ rfl (Or.inr (by show 1000 + 100 * wid 15 (101, 11) + 1 ∈ _; rw [(wid_f (by decide))]; decide)) (fun h45 hO45 hv45 d44 hc46 => ?_)
        have hu45 : un [16, 2501, 22008, 22009, 22010, 22011, 22012] h38 h45 := hv45.mono (by decide)
        refine ur_ldA rfl rfl ?_
        refine ur_ldA rfl rfl ?_
        have t47 := fO_keep (a := 15) (ci := 1) (n := 11) (k := 1) hO0 hO38 hv38 (by decide) rfl (by decide) rfl (by decide)
        refine ur_inl rfl (rcv_of hc46) (Nat.le_of_ble_eq_true rfl) (Nat.le_of_ble_eq_true rfl) (sf_X1_settleSpans hO45 g24 (hu45.tm (hu38.tm t1 (by decide)) (by decide)) (fun w48 h50 hr49 hO50 hv50 => ?_))
        have hu50 : un [16, 2501, 22008, 22009, 22010, 22011, 22012] h45 h50 := hv50.mono (by decide)
        subst hr49
        show uRun _ (uCall Mt _) _ 94 (_, [], _, _, _)
        have t51 := fO_of (k := 1) (hv50.ko (n := 11) hc46 rfl (wid_f (by decide)) (by decide)) rfl
        obtain ⟨g68, f53, f54, f55, f56, f57, f58, f59, f60, f61, o65, f62, f63, f64, hc52, k66, k67⟩ := hO50.word (hu50.tm (hu45.tm (hu38.tm t1 (by decide)) (by decide)) (by decide))
        have t69 := fO_of (k := 1) hc52 rfl
        refine ur_ldA rfl rfl ?_
        refine ur_get rfl (hv50.ko (n := 11) hc46 rfl (wid_f (by decide)) (by decide)) rfl ?_
        refine ur_push rfl ?_
        refine ur_binV rfl (fun x70 e71 => ?_)
        have z72 := any_r x40
        have t73 := ti_sub e71 (by omega) (by omega)
        have t74 := fO_keep (a := 15) (ci := 1) (n := 11) (k := 1) hO45 hO50 hv50 (by decide) rfl (by decide) rfl (by decide)
        have t75 := hv38.nW (by decide)
        have t76 := hv45.nW (by decide)
        have t77 := hv50.nW (by decide)
        have n78 := NA_push pre0 hc32 hc37 (by omega) (by omega) (d44 16 (by decide)) (show fO h45 15 1 = fO h0 15 1 + 1 by omega) hn34
        exact ur_ret rfl rfl (hQ _ _ ⟨_, rfl, by omega⟩ hO50 (hu38.tr (hu45.tr hu50)) (by omega) (n78.un hO45 hO50 hv50 (by decide) (by decide)))
      · have t79 := ne_no c30
        exfalso
        omega
    · have t80 := eq_no c28
      refine ur_ldA rfl rfl ?_
      refine ur_get rfl hc8 rfl ?_
      refine ur_push rfl ?_
      refine ur_if2 rfl (fun c81 => ?_) (fun c81 => ?_)
      · have t82 := eq_to c81
        refine ur_ldA rfl rfl ?_
        refine ur_get rfl hc8 rfl ?_
        refine ur_push rfl ?_
        refine ur_if2 rfl (fun c83 => ?_) (fun c83 => ?_)
        · have t84 := ne_to c83
          refine ur_ldA rfl rfl ?_
          refine ur_get rfl hc1 rfl ?_
          refine ur_ldA rfl rfl ?_
          refine ur_get rfl hc1 rfl ?_
          refine ur_ldA rfl rfl ?_
          obtain ⟨xs86, hc85, hn87, he88⟩ := hO0.wor (hO0.fix 16 (by decide) rfl)
          refine ur_astAV (W := [16]) (m := 150) rfl hO0 hc85 hc8 (Or.inr ⟨rfl, g24, t1⟩) hn87 (by omega) (Or.inr (Or.inr (wid_fix (by decide) (by decide)))) (fun h91 hO91 hv91 d89 hc90 => ?_)
          have hu91 : un [16, 2501, 22008, 22009, 22010, 22011, 22012] h0 h91 := hv91.mono (by decide)
          refine ur_ldA rfl rfl ?_
          refine ur_dup rfl rfl ?_
          refine ur_get rfl ((d89 _ (by decide)).trans hc1) rfl ?_
          have t92 := fO_of (k := 1) ((d89 _ (by decide)).trans hc1) rfl
          refine ur_push rfl ?_
          refine ur_binV rfl (fun x93 e94 => ?_)
          have z95 := any_r f2
          have t96 := ti_add e94 (by omega) (by omega)
          refine ur_putV (W := [2501]) (fs' := [(.inr (.inr (some 16))), (.inl x93), (.inl f3), (.inl f4), (.inl f5), (.inr (.inr (some 17))), (.inr (.inr (some 18))), (.inr (.inr (some 19))), (.inr (.inr (some 20))), (.inr (.inr (some 21))), (.inr (.inr (some 22)))]) rfl hO91 ((d89 _ (by decide)).trans hc1) (Nat.le_of_ble_eq_true rfl) rfl rfl ⟨rfl, _, _, _, _, rfl, by omega⟩ rfl (Or.inr (by show 1000 + 100 * wid 15 (101, 11) + 1 ∈ _; rw [(wid_f (by decide))]; decide)) (fun h98 hO98 hv98 d97 hc99 => ?_)
          have hu98 : un [16, 2501, 22008, 22009, 22010, 22011, 22012] h91 h98 := hv98.mono (by decide)
          refine ur_ldA rfl rfl ?_
          refine ur_ldA rfl rfl ?_
          have t100 := fO_keep (a := 15) (ci := 1) (n := 11) (k := 1) hO0 hO91 hv91 (by decide) rfl (by decide) rfl (by decide)
          refine ur_inl rfl (rcv_of hc99) (Nat.le_of_ble_eq_true rfl) (Nat.le_of_ble_eq_true rfl) (sf_X1_settleSpans hO98 g24 (hu98.tm (hu91.tm t1 (by decide)) (by decide)) (fun w101 h103 hr102 hO103 hv103 => ?_))
          have hu103 : un [16, 2501, 22008, 22009, 22010, 22011, 22012] h98 h103 := hv103.mono (by decide)
          subst hr102
          show uRun _ (uCall Mt _) _ 94 (_, [], _, _, _)
          have t104 := fO_of (k := 1) (hv103.ko (n := 11) hc99 rfl (wid_f (by decide)) (by decide)) rfl
          obtain ⟨g121, f106, f107, f108, f109, f110, f111, f112, f113, f114, o118, f115, f116, f117, hc105, k119, k120⟩ := hO103.word (hu103.tm (hu98.tm (hu91.tm t1 (by decide)) (by decide)) (by decide))
          have t122 := fO_of (k := 1) hc105 rfl
          refine ur_ldA rfl rfl ?_
          refine ur_get rfl (hv103.ko (n := 11) hc99 rfl (wid_f (by decide)) (by decide)) rfl ?_
          refine ur_push rfl ?_
          refine ur_binV rfl (fun x123 e124 => ?_)
          have z125 := any_r x93
          have t126 := ti_sub e124 (by omega) (by omega)
          have t127 := fO_keep (a := 15) (ci := 1) (n := 11) (k := 1) hO98 hO103 hv103 (by decide) rfl (by decide) rfl (by decide)
          have t128 := hv91.nW (by decide)
          have t129 := hv98.nW (by decide)
          have t130 := hv103.nW (by decide)
          have n131 := NA_push pre0 hc85 hc90 (by omega) (by omega) (d97 16 (by decide)) (show fO h98 15 1 = fO h0 15 1 + 1 by omega) hn87
          exact ur_ret rfl rfl (hQ _ _ ⟨_, rfl, by omega⟩ hO103 (hu91.tr (hu98.tr hu103)) (by omega) (n131.un hO98 hO103 hv103 (by decide) (by decide)))
        · have t132 := ne_no c83
          exfalso
          omega
      · have t133 := eq_no c81
        refine ur_ldA rfl rfl ?_
        refine ur_get rfl hc8 rfl ?_
        refine ur_push rfl ?_
        refine ur_if2 rfl (fun c134 => ?_) (fun c134 => ?_)
        · have t135 := eq_to c134
          refine ur_ldA rfl rfl ?_
          refine ur_get rfl hc8 rfl ?_
          refine ur_push rfl ?_
          refine ur_if2 rfl (fun c136 => ?_) (fun c136 => ?_)
          · have t137 := ne_to c136
            refine ur_ldA rfl rfl ?_
            refine ur_get rfl hc1 rfl ?_
            refine ur_ldA rfl rfl ?_
            refine ur_get rfl hc1 rfl ?_
            refine ur_ldA rfl rfl ?_
            obtain ⟨xs139, hc138, hn140, he141⟩ := hO0.wor (hO0.fix 16 (by decide) rfl)
            refine ur_astAV (W := [16]) (m := 150) rfl hO0 hc138 hc8 (Or.inr ⟨rfl, g24, t1⟩) hn140 (by omega) (Or.inr (Or.inr (wid_fix (by decide) (by decide)))) (fun h144 hO144 hv144 d142 hc143 => ?_)
            have hu144 : un [16, 2501, 22008, 22009, 22010, 22011, 22012] h0 h144 := hv144.mono (by decide)
            refine ur_ldA rfl rfl ?_
            refine ur_dup rfl rfl ?_
            refine ur_get rfl ((d142 _ (by decide)).trans hc1) rfl ?_
            have t145 := fO_of (k := 1) ((d142 _ (by decide)).trans hc1) rfl
            refine ur_push rfl ?_
            refine ur_binV rfl (fun x146 e147 => ?_)
            have z148 := any_r f2
            have t149 := ti_add e147 (by omega) (by omega)
            refine ur_putV (W := [2501]) (fs' := [(.inr (.inr (some 16))), (.inl x146), (.inl f3), (.inl f4), (.inl f5), (.inr (.inr (some 17))), (.inr (.inr (some 18))), (.inr (.inr (some 19))), (.inr (.inr (some 20))), (.inr (.inr (some 21))), (.inr (.inr (some 22)))]) rfl hO144 ((d142 _ (by decide)).trans hc1) (Nat.le_of_ble_eq_true rfl) rfl rfl ⟨rfl, _, _, _, _, rfl, by omega⟩ rfl (Or.inr (by show 1000 + 100 * wid 15 (101, 11) + 1 ∈ _; rw [(wid_f (by decide))]; decide)) (fun h151 hO151 hv151 d150 hc152 => ?_)
            have hu151 : un [16, 2501, 22008, 22009, 22010, 22011, 22012] h144 h151 := hv151.mono (by decide)
            refine ur_ldA rfl rfl ?_
            refine ur_ldA rfl rfl ?_
            have t153 := fO_keep (a := 15) (ci := 1) (n := 11) (k := 1) hO0 hO144 hv144 (by decide) rfl (by decide) rfl (by decide)
            refine ur_inl rfl (rcv_of hc152) (Nat.le_of_ble_eq_true rfl) (Nat.le_of_ble_eq_true rfl) (sf_X1_settleSpans hO151 g24 (hu151.tm (hu144.tm t1 (by decide)) (by decide)) (fun w154 h156 hr155 hO156 hv156 => ?_))
            have hu156 : un [16, 2501, 22008, 22009, 22010, 22011, 22012] h151 h156 := hv156.mono (by decide)
            subst hr155
            show uRun _ (uCall Mt _) _ 94 (_, [], _, _, _)
            have t157 := fO_of (k := 1) (hv156.ko (n := 11) hc152 rfl (wid_f (by decide)) (by decide)) rfl
            obtain ⟨g174, f159, f160, f161, f162, f163, f164, f165, f166, f167, o171, f168, f169, f170, hc158, k172, k173⟩ := hO156.word (hu156.tm (hu151.tm (hu144.tm t1 (by decide)) (by decide)) (by decide))
            have t175 := fO_of (k := 1) hc158 rfl
            refine ur_ldA rfl rfl ?_
            refine ur_get rfl (hv156.ko (n := 11) hc152 rfl (wid_f (by decide)) (by decide)) rfl ?_
            refine ur_push rfl ?_
            refine ur_binV rfl (fun x176 e177 => ?_)
            have z178 := any_r x146
            have t179 := ti_sub e177 (by omega) (by omega)
            have t180 := fO_keep (a := 15) (ci := 1) (n := 11) (k := 1) hO151 hO156 hv156 (by decide) rfl (by decide) rfl (by decide)
            have t181 := hv144.nW (by decide)
            have t182 := hv151.nW (by decide)
            have t183 := hv156.nW (by decide)
            have n184 := NA_push pre0 hc138 hc143 (by omega) (by omega) (d150 16 (by decide)) (show fO h151 15 1 = fO h0 15 1 + 1 by omega) hn140
            exact ur_ret rfl rfl (hQ _ _ ⟨_, rfl, by omega⟩ hO156 (hu144.tr (hu151.tr hu156)) (by omega) (n184.un hO151 hO156 hv156 (by decide) (by decide)))
          · have t185 := ne_no c136
            exfalso
            omega
        · have t186 := eq_no c134
          refine ur_ldA rfl rfl ?_
          refine ur_ldI rfl rfl ?_
          refine ur_putV (W := [22008]) (fs' := [(.inl f9), (.inl f10), (.inl f11), (.inl f12), (.inl f13), (.inl f14), (.inl f15), (.inl f16), (.inl a2), (.inr (.inr o21)), (.inl f18), (.inl f19), (.inl f20)]) rfl hO0 hc8 (Nat.le_of_ble_eq_true rfl) rfl rfl ⟨g24, _, _, _, _, _, _, _, _, _, _, _, _, _, rfl, k22, by omega⟩ rfl (Or.inr (by show 1000 + 100 * wid a1 (110, 13) + 8 ∈ _; rw [(wid_w g24)]; decide)) (fun h188 hO188 hv188 d187 hc189 => ?_)
          have hu188 : un [16, 2501, 22008, 22009, 22010, 22011, 22012] h0 h188 := hv188.mono (by decide)
          refine ur_ldA rfl rfl ?_
          refine ur_get rfl hc189 rfl ?_
          have t190 := fO_of (k := 1) hc189 rfl
          refine ur_push rfl ?_
          refine ur_if2 rfl (fun c191 => ?_) (fun c191 => ?_)
          · have t192 := ne_to c191
            refine ur_ldA rfl rfl ?_
            refine ur_get rfl ((d187 _ (ne_tg (hO188.fix 15 (by decide) rfl) (hu188.tm t1 (by decide)) (by decide))).trans hc1) rfl ?_
            have t193 := fO_of (k := 1) ((d187 _ (ne_tg (hO188.fix 15 (by decide) rfl) (hu188.tm t1 (by decide)) (by decide))).trans hc1) rfl
            refine ur_ldA rfl rfl ?_
            refine ur_get rfl ((d187 _ (ne_tg (hO188.fix 15 (by decide) rfl) (hu188.tm t1 (by decide)) (by decide))).trans hc1) rfl ?_
            refine ur_ldA rfl rfl ?_
            obtain ⟨xs195, hc194, hn196, he197⟩ := hO188.wor (hO188.fix 16 (by decide) rfl)
            refine ur_astAV (W := [16]) (m := 150) rfl hO188 hc194 hc189 (Or.inr ⟨rfl, g24, (hu188.tm t1 (by decide))⟩) hn196 (by omega) (Or.inr (Or.inr (wid_fix (by decide) (by decide)))) (fun h200 hO200 hv200 d198 hc199 => ?_)
            have hu200 : un [16, 2501, 22008, 22009, 22010, 22011, 22012] h188 h200 := hv200.mono (by decide)
            refine ur_ldA rfl rfl ?_
            refine ur_dup rfl rfl ?_
            refine ur_get rfl ((d198 _ (by decide)).trans ((d187 _ (ne_tg (hO188.fix 15 (by decide) rfl) (hu188.tm t1 (by decide)) (by decide))).trans hc1)) rfl ?_
            have t201 := fO_of (k := 1) ((d198 _ (by decide)).trans ((d187 _ (ne_tg (hO188.fix 15 (by decide) rfl) (hu188.tm t1 (by decide)) (by decide))).trans hc1)) rfl
            refine ur_push rfl ?_
            refine ur_binV rfl (fun x202 e203 => ?_)
            have z204 := any_r f2
            have t205 := ti_add e203 (by omega) (by omega)
            refine ur_putV (W := [2501]) (fs' := [(.inr (.inr (some 16))), (.inl x202), (.inl f3), (.inl f4), (.inl f5), (.inr (.inr (some 17))), (.inr (.inr (some 18))), (.inr (.inr (some 19))), (.inr (.inr (some 20))), (.inr (.inr (some 21))), (.inr (.inr (some 22)))]) rfl hO200 ((d198 _ (by decide)).trans ((d187 _ (ne_tg (hO188.fix 15 (by decide) rfl) (hu188.tm t1 (by decide)) (by decide))).trans hc1)) (Nat.le_of_ble_eq_true rfl) rfl rfl ⟨rfl, _, _, _, _, rfl, by omega⟩ rfl (Or.inr (by show 1000 + 100 * wid 15 (101, 11) + 1 ∈ _; rw [(wid_f (by decide))]; decide)) (fun h207 hO207 hv207 d206 hc208 => ?_)
            have hu207 : un [16, 2501, 22008, 22009, 22010, 22011, 22012] h200 h207 := hv207.mono (by decide)
            refine ur_ldA rfl rfl ?_
            refine ur_ldA rfl rfl ?_
            have t209 := fO_keep (a := 15) (ci := 1) (n := 11) (k := 1) hO0 hO188 hv188 (by decide) rfl (by decide) rfl (by decide)
            have t210 := fO_keep (a := 15) (ci := 1) (n := 11) (k := 1) hO188 hO200 hv200 (by decide) rfl (by decide) rfl (by decide)
            refine ur_inl rfl (rcv_of hc208) (Nat.le_of_ble_eq_true rfl) (Nat.le_of_ble_eq_true rfl) (sf_X1_settleSpans hO207 g24 (hu207.tm (hu200.tm (hu188.tm t1 (by decide)) (by decide)) (by decide)) (fun w211 h213 hr212 hO213 hv213 => ?_))
            have hu213 : un [16, 2501, 22008, 22009, 22010, 22011, 22012] h207 h213 := hv213.mono (by decide)
            subst hr212
            show uRun _ (uCall Mt _) _ 94 (_, [], _, _, _)
            have t214 := fO_of (k := 1) (hv213.ko (n := 11) hc208 rfl (wid_f (by decide)) (by decide)) rfl
            obtain ⟨g231, f216, f217, f218, f219, f220, f221, f222, f223, f224, o228, f225, f226, f227, hc215, k229, k230⟩ := hO213.word (hu213.tm (hu207.tm (hu200.tm (hu188.tm t1 (by decide)) (by decide)) (by decide)) (by decide))
            have t232 := fO_of (k := 1) hc215 rfl
            refine ur_ldA rfl rfl ?_
            refine ur_get rfl (hv213.ko (n := 11) hc208 rfl (wid_f (by decide)) (by decide)) rfl ?_
            refine ur_push rfl ?_
            refine ur_binV rfl (fun x233 e234 => ?_)
            have z235 := any_r x202
            have t236 := ti_sub e234 (by omega) (by omega)
            have t237 := fO_keep (a := 15) (ci := 1) (n := 11) (k := 1) hO207 hO213 hv213 (by decide) rfl (by decide) rfl (by decide)
            have t238 := hv188.nW (by decide)
            have t239 := hv200.nW (by decide)
            have t240 := hv207.nW (by decide)
            have t241 := hv213.nW (by decide)
            have n242 := NA_push (pre0.un hO0 hO188 hv188 (by decide) (by decide)) hc194 hc199 (by omega) (by omega) (d206 16 (by decide)) (show fO h207 15 1 = fO h188 15 1 + 1 by omega) hn196
            exact ur_ret rfl rfl (hQ _ _ ⟨_, rfl, by omega⟩ hO213 (hu188.tr (hu200.tr (hu207.tr hu213))) (by omega) (n242.un hO207 hO213 hv213 (by decide) (by decide)))
          · have t243 := ne_no c191
            refine ur_ldA rfl rfl ?_
            refine ur_ldI rfl rfl ?_
            have t244 := fO_of (k := 1) ((d187 _ (ne_tg (hO188.fix 15 (by decide) rfl) (hu188.tm t1 (by decide)) (by decide))).trans hc1) rfl
            have t245 := fO_keep (a := 15) (ci := 1) (n := 11) (k := 1) hO0 hO188 hv188 (by decide) rfl (by decide) rfl (by decide)
            refine ur_inl rfl (rcv_of ((d187 _ (ne_tg (hO188.fix 15 (by decide) rfl) (hu188.tm t1 (by decide)) (by decide))).trans hc1)) (Nat.le_of_ble_eq_true rfl) (Nat.le_of_ble_eq_true rfl) (sd_X1_wordAt hO188 _ (pre0.un hO0 hO188 hv188 (by decide) (by decide)) (fun w246 hr247 => ?_))
            obtain ⟨o248, rfl, k249, t250, t251⟩ := hr247
            show uRun _ (uCall Mt _) _ 54 (_, [(.inr (.inr o248))], _, _, _)
            refine ur_svAk [some (.inr (.inr (some 15))), some (.inr (.inr (some a1))), some (.inl a2), some (.inr (.inr o248))] rfl rfl ?_
            refine ur_ldA rfl rfl ?_
            cases o248 with
            | none =>
              refine ur_nulN rfl ?_
              have t253 := t250 rfl
              exfalso
              omega
            | some r252 =>
              refine ur_nulS rfl ?_
              have k254 := k249 _ rfl
              have t255 := t251 _ rfl
              refine ur_ldA rfl rfl ?_
              refine ur_ldA rfl rfl ?_
              obtain ⟨g272, f257, f258, f259, f260, f261, f262, f263, f264, f265, o269, f266, f267, f268, hc256, k270, k271⟩ := hO188.word k254.2
              refine ur_inl rfl (rcv_of hc256) (Nat.le_of_ble_eq_true rfl) (Nat.le_of_ble_eq_true rfl) (sf_X10_rootWord hO188 g272 k254.2 (fun w273 hr274 => ?_))
              obtain ⟨r275, rfl, k276⟩ := hr274
              show uRun _ (uCall Mt _) _ 66 (_, [(.inr (.inr (some r275))), (.inr (.inr (some a1)))], _, _, _)
              refine ur_inl rfl (rcv_of hc189) (Nat.le_of_ble_eq_true rfl) (Nat.le_of_ble_eq_true rfl) (sf_X10_copyFrom hO188 g24 (hu188.tm t1 (by decide)) k276.1 k276.2 (fun w277 h279 hr278 hO279 hv279 => ?_))
              have hu279 : un [16, 2501, 22008, 22009, 22010, 22011, 22012] h188 h279 := hv279.mono (by decide)
              subst hr278
              show uRun _ (uCall Mt _) _ 69 (_, [], _, _, _)
              have t280 := fO_of (k := 1) (hv279.ko (n := 11) ((d187 _ (ne_tg (hO188.fix 15 (by decide) rfl) (hu188.tm t1 (by decide)) (by decide))).trans hc1) rfl (wid_f (by decide)) (by decide)) rfl
              obtain ⟨g297, f282, f283, f284, f285, f286, f287, f288, f289, f290, o294, f291, f292, f293, hc281, k295, k296⟩ := hO279.word (hu279.tm (hu188.tm t1 (by decide)) (by decide))
              have t298 := fO_of (k := 1) hc281 rfl
              refine ur_ldA rfl rfl ?_
              refine ur_get rfl (hv279.ko (n := 11) ((d187 _ (ne_tg (hO188.fix 15 (by decide) rfl) (hu188.tm t1 (by decide)) (by decide))).trans hc1) rfl (wid_f (by decide)) (by decide)) rfl ?_
              refine ur_ldA rfl rfl ?_
              refine ur_get rfl (hv279.ko (n := 11) ((d187 _ (ne_tg (hO188.fix 15 (by decide) rfl) (hu188.tm t1 (by decide)) (by decide))).trans hc1) rfl (wid_f (by decide)) (by decide)) rfl ?_
              refine ur_ldA rfl rfl ?_
              obtain ⟨xs300, hc299, hn301, he302⟩ := hO279.wor (hO279.fix 16 (by decide) rfl)
              refine ur_astAV (W := [16]) (m := 150) rfl hO279 hc299 hc281 (Or.inr ⟨rfl, g297, (hu279.tm (hu188.tm t1 (by decide)) (by decide))⟩) hn301 (by omega) (Or.inr (Or.inr (wid_fix (by decide) (by decide)))) (fun h305 hO305 hv305 d303 hc304 => ?_)
              have hu305 : un [16, 2501, 22008, 22009, 22010, 22011, 22012] h279 h305 := hv305.mono (by decide)
              refine ur_ldA rfl rfl ?_
              refine ur_dup rfl rfl ?_
              refine ur_get rfl ((d303 _ (by decide)).trans (hv279.ko (n := 11) ((d187 _ (ne_tg (hO188.fix 15 (by decide) rfl) (hu188.tm t1 (by decide)) (by decide))).trans hc1) rfl (wid_f (by decide)) (by decide))) rfl ?_
              have t306 := fO_of (k := 1) ((d303 _ (by decide)).trans (hv279.ko (n := 11) ((d187 _ (ne_tg (hO188.fix 15 (by decide) rfl) (hu188.tm t1 (by decide)) (by decide))).trans hc1) rfl (wid_f (by decide)) (by decide))) rfl
              refine ur_push rfl ?_
              refine ur_binV rfl (fun x307 e308 => ?_)
              have z309 := any_r f2
              have t310 := ti_add e308 (by omega) (by omega)
              refine ur_putV (W := [2501]) (fs' := [(.inr (.inr (some 16))), (.inl x307), (.inl f3), (.inl f4), (.inl f5), (.inr (.inr (some 17))), (.inr (.inr (some 18))), (.inr (.inr (some 19))), (.inr (.inr (some 20))), (.inr (.inr (some 21))), (.inr (.inr (some 22)))]) rfl hO305 ((d303 _ (by decide)).trans (hv279.ko (n := 11) ((d187 _ (ne_tg (hO188.fix 15 (by decide) rfl) (hu188.tm t1 (by decide)) (by decide))).trans hc1) rfl (wid_f (by decide)) (by decide))) (Nat.le_of_ble_eq_true rfl) rfl rfl ⟨rfl, _, _, _, _, rfl, by omega⟩ rfl (Or.inr (by show 1000 + 100 * wid 15 (101, 11) + 1 ∈ _; rw [(wid_f (by decide))]; decide)) (fun h312 hO312 hv312 d311 hc313 => ?_)
              have hu312 : un [16, 2501, 22008, 22009, 22010, 22011, 22012] h305 h312 := hv312.mono (by decide)
              refine ur_ldA rfl rfl ?_
              refine ur_ldA rfl rfl ?_
              have t314 := fO_keep (a := 15) (ci := 1) (n := 11) (k := 1) hO188 hO279 hv279 (by decide) rfl (by decide) rfl (by decide)
              have t315 := fO_keep (a := 15) (ci := 1) (n := 11) (k := 1) hO279 hO305 hv305 (by decide) rfl (by decide) rfl (by decide)
              refine ur_inl rfl (rcv_of hc313) (Nat.le_of_ble_eq_true rfl) (Nat.le_of_ble_eq_true rfl) (sf_X1_settleSpans hO312 g297 (hu312.tm (hu305.tm (hu279.tm (hu188.tm t1 (by decide)) (by decide)) (by decide)) (by decide)) (fun w316 h318 hr317 hO318 hv318 => ?_))
              have hu318 : un [16, 2501, 22008, 22009, 22010, 22011, 22012] h312 h318 := hv318.mono (by decide)
              subst hr317
              show uRun _ (uCall Mt _) _ 94 (_, [], _, _, _)
              have t319 := fO_of (k := 1) (hv318.ko (n := 11) hc313 rfl (wid_f (by decide)) (by decide)) rfl
              obtain ⟨g336, f321, f322, f323, f324, f325, f326, f327, f328, f329, o333, f330, f331, f332, hc320, k334, k335⟩ := hO318.word (hu318.tm (hu312.tm (hu305.tm (hu279.tm (hu188.tm t1 (by decide)) (by decide)) (by decide)) (by decide)) (by decide))
              have t337 := fO_of (k := 1) hc320 rfl
              refine ur_ldA rfl rfl ?_
              refine ur_get rfl (hv318.ko (n := 11) hc313 rfl (wid_f (by decide)) (by decide)) rfl ?_
              refine ur_push rfl ?_
              refine ur_binV rfl (fun x338 e339 => ?_)
              have z340 := any_r x307
              have t341 := ti_sub e339 (by omega) (by omega)
              have t342 := fO_keep (a := 15) (ci := 1) (n := 11) (k := 1) hO312 hO318 hv318 (by decide) rfl (by decide) rfl (by decide)
              have t343 := hv188.nW (by decide)
              have t344 := hv279.nW (by decide)
              have t345 := hv305.nW (by decide)
              have t346 := hv312.nW (by decide)
              have t347 := hv318.nW (by decide)
              have n348 := NA_push ((pre0.un hO0 hO188 hv188 (by decide) (by decide)).un hO188 hO279 hv279 (by decide) (by decide)) hc299 hc304 (by omega) (by omega) (d311 16 (by decide)) (show fO h312 15 1 = fO h279 15 1 + 1 by omega) hn301
              exact ur_ret rfl rfl (hQ _ _ ⟨_, rfl, by omega⟩ hO318 (hu188.tr (hu279.tr (hu305.tr (hu312.tr hu318)))) (by omega) (n348.un hO312 hO318 hv318 (by decide) (by decide)))
  · have t349 := lt_no c26
    exfalso
    omega

set_option maxRecDepth 20000 in
set_option maxHeartbeats 4000000 in
theorem sd_X11_word {d kc ks : Nat} {h0 : aH} {Q : Option aV → aH → Prop} (hO0 : OK h0) (a1 : Int32) (a2 : Int32) (a3 : Int32) (pre0 : NA h0) (hQ : ∀ r h', (∃ x : Int32, r = some (.inl x) ∧ (¬ ((0 ≤ a1.toInt ∧ a1.toInt / 10000 ≤ 8 ∧ a1.toInt / 100 % 100 ≤ 7 ∧ 0 ≤ a2.toInt ∧ a2.toInt ≤ 400) ∧ (a1.toInt % 100 = 99 ∨ (a1.toInt % 100 ≤ 19 ∧ gI h0 17 (a1.toInt % 100) ≠ -1)) ∧ ((a1.toInt / 100 % 100 = 1 ∨ a1.toInt / 100 % 100 = 6 → 0 ≤ a3.toInt ∧ a3.toInt ≤ 23) ∧ (a1.toInt / 100 % 100 = 2 ∨ a1.toInt / 100 % 100 = 7 → 0 ≤ a3.toInt ∧ a3.toInt ≤ 1) ∧ (a1.toInt / 100 % 100 = 3 → 0 ≤ a3.toInt ∧ a3.toInt < fO h0 15 1))) ∧ x.toInt = -1 ∧ fO h' 15 1 = fO h0 15 1 ∨ ((0 ≤ a1.toInt ∧ a1.toInt / 10000 ≤ 8 ∧ a1.toInt / 100 % 100 ≤ 7 ∧ 0 ≤ a2.toInt ∧ a2.toInt ≤ 400) ∧ (a1.toInt % 100 = 99 ∨ (a1.toInt % 100 ≤ 19 ∧ gI h0 17 (a1.toInt % 100) ≠ -1)) ∧ ((a1.toInt / 100 % 100 = 1 ∨ a1.toInt / 100 % 100 = 6 → 0 ≤ a3.toInt ∧ a3.toInt ≤ 23) ∧ (a1.toInt / 100 % 100 = 2 ∨ a1.toInt / 100 % 100 = 7 → 0 ≤ a3.toInt ∧ a3.toInt ≤ 1) ∧ (a1.toInt / 100 % 100 = 3 → 0 ≤ a3.toInt ∧ a3.toInt < fO h0 15 1))) ∧ 150 ≤ fO h0 15 1 ∧ x.toInt = -3 ∧ fO h' 15 1 = fO h0 15 1 ∨ ((0 ≤ a1.toInt ∧ a1.toInt / 10000 ≤ 8 ∧ a1.toInt / 100 % 100 ≤ 7 ∧ 0 ≤ a2.toInt ∧ a2.toInt ≤ 400) ∧ (a1.toInt % 100 = 99 ∨ (a1.toInt % 100 ≤ 19 ∧ gI h0 17 (a1.toInt % 100) ≠ -1)) ∧ ((a1.toInt / 100 % 100 = 1 ∨ a1.toInt / 100 % 100 = 6 → 0 ≤ a3.toInt ∧ a3.toInt ≤ 23) ∧ (a1.toInt / 100 % 100 = 2 ∨ a1.toInt / 100 % 100 = 7 → 0 ≤ a3.toInt ∧ a3.toInt ≤ 1) ∧ (a1.toInt / 100 % 100 = 3 → 0 ≤ a3.toInt ∧ a3.toInt < fO h0 15 1))) ∧ fO h0 15 1 < 150 ∧ x.toInt = fO h0 15 1 ∧ fO h' 15 1 = fO h0 15 1 + 1)) → OK h' → un [16, 45, 46, 2501, 9010, 22005, 22006, 22007, 22008, 22009, 22010, 22011, 22012] h0 h' → (nW h' ≤ nW h0 + 1) → (NA h') → Q r h') : uCall Mt (d + 7) 134 [(.inr (.inr (some 0))), (.inl a1), (.inl a2), (.inl a3)] h0 kc ks Q := by
  have l_m3 : ((-3) : Int32).toInt = -3 := by decide
  have l_m1 : ((-1) : Int32).toInt = -1 := by decide
  have l_0 : ((0) : Int32).toInt = 0 := by decide
  have l_8 : ((8) : Int32).toInt = 8 := by decide
  have l_99 : ((99) : Int32).toInt = 99 := by decide
  have l_100 : ((100) : Int32).toInt = 100 := by decide
  have l_150 : ((150) : Int32).toInt = 150 := by decide
  have l_400 : ((400) : Int32).toInt = 400 := by decide
  have l_10000 : ((10000) : Int32).toInt = 10000 := by decide
  refine uc_ink [some (.inr (.inr (some 0))), some (.inl a1), some (.inl a2), some (.inl a3), none, none, none, none] mt_134 (Nat.le_of_ble_eq_true rfl) rfl ?_
  obtain ⟨f2, f3, f4, f5, hc1, k6⟩ := ok_15 hO0
  have t7 := fO_of (k := 1) hc1 rfl
  refine ur_ldI rfl rfl ?_
  refine ur_push rfl ?_
  refine ur_divV rfl (by decide) (fun x8 e9 => ?_)
  have z10 := any_r a1
  have t11 : 0 ≤ a1.toInt → x8.toInt = a1.toInt / 10000 := fun q => ti_div e9 l_10000 (by decide) q
  refine ur_svIk [some (.inr (.inr (some 0))), some (.inl a1), some (.inl a2), some (.inl a3), some (.inl x8), none, none, none] rfl rfl ?_
  refine ur_ldI rfl rfl ?_
  refine ur_push rfl ?_
  refine ur_divV rfl (by decide) (fun x12 e13 => ?_)
  have t14 : 0 ≤ a1.toInt → x12.toInt = a1.toInt / 100 := fun q => ti_div e13 l_100 (by decide) q
  refine ur_push rfl ?_
  refine ur_divV rfl (by decide) (fun x15 e16 => ?_)
  have z17 := any_r x12
  have t18 : 0 ≤ x12.toInt → x15.toInt = x12.toInt % 100 := fun q => ti_rem e16 l_100 (by decide) q
  refine ur_svIk [some (.inr (.inr (some 0))), some (.inl a1), some (.inl a2), some (.inl a3), some (.inl x8), some (.inl x15), none, none] rfl rfl ?_
  refine ur_ldI rfl rfl ?_
  refine ur_push rfl ?_
  refine ur_divV rfl (by decide) (fun x19 e20 => ?_)
  have t21 : 0 ≤ a1.toInt → x19.toInt = a1.toInt % 100 := fun q => ti_rem e20 l_100 (by decide) q
  refine ur_svIk [some (.inr (.inr (some 0))), some (.inl a1), some (.inl a2), some (.inl a3), some (.inl x8), some (.inl x15), some (.inl x19), none] rfl rfl ?_
  refine ur_ldI rfl rfl ?_
  have t22 : 0 ≤ a1.toInt → gI h0 17 (a1.toInt % 100) = gI h0 17 x19.toInt := fun q => by rw [show a1.toInt % 100 = x19.toInt by omega]
  refine ur_if1 rfl (fun c23 => ?_) (fun c23 => ?_)
  · have t24 := lt_to c23
    refine ur_push rfl ?_
    exact ur_ret rfl rfl (hQ _ _ ⟨_, rfl, Or.inl ⟨fun q => by omega, by omega, by omega⟩⟩ hO0 un.rf (by omega) pre0)
  · have t25 := lt_no c23
    replace t11 := t11 (by omega)
    replace t14 := t14 (by omega)
    replace t18 := t18 (by omega)
    replace t21 := t21 (by omega)
    replace t22 := t22 (by omega)
    refine ur_ldI rfl rfl ?_
    refine ur_callv rfl rfl (Nat.le_of_ble_eq_true rfl) (Nat.le_of_ble_eq_true rfl) rfl (sp_isPpl _ _) ?_
    refine ur_eqB rfl (fun c28 => ?_) (fun c28 => ?_)
    · have t29 := wi_noL c28 l_0 l_8
      refine ur_push rfl ?_
      exact ur_ret rfl rfl (hQ _ _ ⟨_, rfl, Or.inl ⟨fun q => by omega, by omega, by omega⟩⟩ hO0 un.rf (by omega) pre0)
    · have t30 := wi_toL c28 l_0 l_8
      refine ur_ldI rfl rfl ?_
      refine ur_push rfl ?_
      refine ur_if2 rfl (fun c31 => ?_) (fun c31 => ?_)
      · have t32 := le_to c31
        refine ur_push rfl ?_
        exact ur_ret rfl rfl (hQ _ _ ⟨_, rfl, Or.inl ⟨fun q => by omega, by omega, by omega⟩⟩ hO0 un.rf (by omega) pre0)
      · have t33 := le_no c31
        refine ur_ldI rfl rfl ?_
        refine ur_push rfl ?_
        refine ur_push rfl ?_
        refine ur_callv rfl rfl (Nat.le_of_ble_eq_true rfl) (Nat.le_of_ble_eq_true rfl) rfl (sp_within _ _ _ _ _) ?_
        refine ur_neB rfl (fun c36 => ?_) (fun c36 => ?_)
        · have t37 := wi_toL c36 l_0 l_400
          refine ur_ldI rfl rfl ?_
          refine ur_push rfl ?_
          refine ur_if2 rfl (fun c38 => ?_) (fun c38 => ?_)
          · have t39 := eq_to c38
            refine ur_ldA rfl rfl ?_
            obtain ⟨hc40, k41⟩ := ok_0 hO0
            refine ur_get rfl hc40 rfl ?_
            refine ur_ldI rfl rfl ?_
            refine ur_ldI rfl rfl ?_
            refine ur_inl rfl (rcv_of hc1) (Nat.le_of_ble_eq_true rfl) (Nat.le_of_ble_eq_true rfl) (sd_X1_canBear hO0 _ _ pre0 (fun w42 hr43 => ?_))
            obtain ⟨b44, rfl, t45, t46⟩ := hr43
            show uRun _ (uCall Mt _) _ 85 (_, [(.inl (bi b44))], _, _, _)
            refine ur_neB rfl (fun c47 => ?_) (fun c47 => ?_)
            · have t48 := t45 c47
              clear t45 t46
              refine ur_ldA rfl rfl ?_
              refine ur_get rfl hc40 rfl ?_
              refine ur_get rfl hc1 rfl ?_
              refine ur_push rfl ?_
              refine ur_if2 rfl (fun c49 => ?_) (fun c49 => ?_)
              · have t50 := lt_to c49
                refine ur_new rfl (Nat.le_of_ble_eq_true rfl) ?_
                refine ur_dup rfl rfl ?_
                refine ur_ldA rfl rfl ?_
                refine ur_get rfl (hs_ap hc40) rfl ?_
                refine ur_get rfl (hs_ap hc1) rfl ?_
                refine ur_ldI rfl rfl ?_
                refine ur_ldI rfl rfl ?_
                refine ur_ldI rfl rfl ?_
                refine ur_push rfl ?_
                refine ur_if2 rfl (fun c52 => ?_) (fun c52 => ?_)
                · have t53 := ne_to c52
                  exfalso
                  omega
                · have t54 := ne_no c52
                  refine ur_push rfl ?_
                  refine ur_go rfl ?_
                  refine ur_ldI rfl rfl ?_
                  refine ur_inl rfl (rcv_of ap_0) (Nat.le_of_ble_eq_true rfl) (Nat.le_of_ble_eq_true rfl) (sd_newWord hO0 _ _ _ _ _ (by show (0 ≤ f2.toInt ∧ f2.toInt ≤ 149) ∧ (0 ≤ x15.toInt ∧ x15.toInt ≤ 7) ∧ (0 ≤ x8.toInt ∧ x8.toInt ≤ 8) ∧ -1 ≤ ((-1) : Int32).toInt ∧ ((-1) : Int32).toInt ≤ 19; omega) (fun w55 h58 hr56 hO58 hv58 k57 hn61 hx59 => ?_))
                  have hc60 : h58[h0.length]? = some (.inl (10, [.inl f2, .inl x15, .inl x8, .inl (-1), .inl a2, .inl 0, .inl 0, .inl 0, .inl (-1), .inr (.inr none), .inl 0, .inl 0, .inl 0])) := by rw [hx59]; exact ap_0
                  have hu58 : un [16, 45, 46, 2501, 9010, 22005, 22006, 22007, 22008, 22009, 22010, 22011, 22012] h0 h58 := hv58.mono (by decide)
                  subst hr56
                  show uRun _ (uCall Mt _) _ 138 (_, [(.inr (.inr (some h0.length)))], _, _, _)
                  refine ur_svAk [some (.inr (.inr (some 0))), some (.inl a1), some (.inl a2), some (.inl a3), some (.inl x8), some (.inl x15), some (.inl x19), some (.inr (.inr (some h0.length)))] rfl rfl ?_
                  refine ur_ldA rfl rfl ?_
                  refine ur_ldA rfl rfl ?_
                  refine ur_get rfl (hv58.ko (n := 8) hc40 rfl (wid_f (by decide)) (by decide)) rfl ?_
                  refine ur_get rfl (hv58.ko (n := 11) hc1 rfl (wid_f (by decide)) (by decide)) rfl ?_
                  have t62 := fO_of (k := 1) (hv58.ko (n := 11) hc1 rfl (wid_f (by decide)) (by decide)) rfl
                  refine ur_ldA rfl rfl ?_
                  refine ur_get rfl (hv58.ko (n := 8) hc40 rfl (wid_f (by decide)) (by decide)) rfl ?_
                  refine ur_get rfl (hv58.ko (n := 11) hc1 rfl (wid_f (by decide)) (by decide)) rfl ?_
                  refine ur_ldA rfl rfl ?_
                  refine ur_get rfl (hv58.ko (n := 8) hc40 rfl (wid_f (by decide)) (by decide)) rfl ?_
                  refine ur_get rfl (hv58.ko (n := 11) hc1 rfl (wid_f (by decide)) (by decide)) rfl ?_
                  obtain ⟨g79, f64, f65, f66, f67, f68, f69, f70, f71, f72, o76, f73, f74, f75, hc63, k77, k78⟩ := hO58.word k57.2
                  have t80 := fO_keep (a := 15) (ci := 1) (n := 11) (k := 1) hO0 hO58 hv58 (by decide) rfl (by decide) rfl (by decide)
                  refine ur_inl rfl (rcv_of hc63) (Nat.le_of_ble_eq_true rfl) (Nat.le_of_ble_eq_true rfl) (sf_X10_dateIt hO58 g79 k57.2 _ _ _ (fun w81 h83 hr82 hO83 hv83 => ?_))
                  have hu83 : un [16, 45, 46, 2501, 9010, 22005, 22006, 22007, 22008, 22009, 22010, 22011, 22012] h58 h83 := hv83.mono (by decide)
                  subst hr82
                  show uRun _ (uCall Mt _) _ 166 (_, [], _, _, _)
                  have t84 := fO_of (k := 1) (hv83.ko (n := 11) (hv58.ko (n := 11) hc1 rfl (wid_f (by decide)) (by decide)) rfl (wid_f (by decide)) (by decide)) rfl
                  refine ur_ldA rfl rfl ?_
                  refine ur_get rfl (hv83.ko (n := 8) (hv58.ko (n := 8) hc40 rfl (wid_f (by decide)) (by decide)) rfl (wid_f (by decide)) (by decide)) rfl ?_
                  obtain ⟨f86, f87, hc85, k88⟩ := ok_41 hO83
                  have t89 := fO_keep (a := 15) (ci := 1) (n := 11) (k := 1) hO58 hO83 hv83 (by decide) rfl (by decide) rfl (by decide)
                  refine ur_inl rfl (rcv_of hc85) (Nat.le_of_ble_eq_true rfl) (Nat.le_of_ble_eq_true rfl) (sf_X7_forgetWeights hO83  (fun w90 h92 hr91 hO92 hv92 => ?_))
                  have hu92 : un [16, 45, 46, 2501, 9010, 22005, 22006, 22007, 22008, 22009, 22010, 22011, 22012] h83 h92 := hv92.mono (by decide)
                  subst hr91
                  show uRun _ (uCall Mt _) _ 173 (_, [], _, _, _)
                  have t93 := fO_of (k := 1) (hv92.ko (n := 11) (hv83.ko (n := 11) (hv58.ko (n := 11) hc1 rfl (wid_f (by decide)) (by decide)) rfl (wid_f (by decide)) (by decide)) rfl (wid_f (by decide)) (by decide)) rfl
                  refine ur_ldA rfl rfl ?_
                  refine ur_get rfl (hv92.ko (n := 8) (hv83.ko (n := 8) (hv58.ko (n := 8) hc40 rfl (wid_f (by decide)) (by decide)) rfl (wid_f (by decide)) (by decide)) rfl (wid_f (by decide)) (by decide)) rfl ?_
                  refine ur_ldA rfl rfl ?_
                  refine ur_ldI rfl rfl ?_
                  have k94 : fO h92 h0.length 1 = (x15 : Int32).toInt := ((fO_kw hO83 hO92 hv92 g79 (hu83.tm k57.2 (by decide)) rfl (by decide)).trans ((fO_kw hO58 hO83 hv83 g79 k57.2 rfl (by decide)).trans (fO_of (k := 1) hc60 rfl)))
                  have t95 := fO_keep (a := 15) (ci := 1) (n := 11) (k := 1) hO83 hO92 hv92 (by decide) rfl (by decide) rfl (by decide)
                  refine ur_inl rfl (rcv_of (hv92.ko (n := 11) (hv83.ko (n := 11) (hv58.ko (n := 11) hc1 rfl (wid_f (by decide)) (by decide)) rfl (wid_f (by decide)) (by decide)) rfl (wid_f (by decide)) (by decide))) (Nat.le_of_ble_eq_true rfl) (Nat.le_of_ble_eq_true rfl) (sd_X1_addWord hO92 g79 (hu92.tm (hu83.tm k57.2 (by decide)) (by decide)) _ (((pre0.un hO0 hO58 hv58 (by decide) (by decide)).un hO58 hO83 hv83 (by decide) (by decide)).un hO83 hO92 hv92 (by decide) (by decide)) (by omega) (by rw [k94]; omega) (fun w96 h100 hr97 hO100 hv100 hp98 hp99 => ?_))
                  have hu100 : un [16, 45, 46, 2501, 9010, 22005, 22006, 22007, 22008, 22009, 22010, 22011, 22012] h92 h100 := hv100.mono (by decide)
                  obtain ⟨x101, rfl, t102⟩ := hr97
                  show uRun _ (uCall Mt _) _ 183 (_, [(.inl x101)], _, _, _)
                  obtain ⟨f104, f105, f106, f107, hc103, k108⟩ := ok_15 hO100
                  have t109 := fO_of (k := 1) hc103 rfl
                  have t110 := hv83.nW (by decide)
                  have t111 := hv92.nW (by decide)
                  have t112 := hv100.nW (by decide)
                  exact ur_ret rfl rfl (hQ _ _ ⟨_, rfl, Or.inr (Or.inr ⟨⟨⟨by omega, by omega, by omega, by omega, by omega⟩, by omega, fun q => by omega, fun q => by omega, fun q => by omega⟩, by omega, by omega, by omega⟩)⟩ hO100 (hu58.tr (hu83.tr (hu92.tr hu100))) (by omega) hp99)
              · have t113 := lt_no c49
                refine ur_push rfl ?_
                exact ur_ret rfl rfl (hQ _ _ ⟨_, rfl, Or.inr (Or.inl ⟨⟨⟨by omega, by omega, by omega, by omega, by omega⟩, by omega, fun q => by omega, fun q => by omega, fun q => by omega⟩, by omega, by omega, by omega⟩)⟩ hO0 un.rf (by omega) pre0)
            · have t114 := t46 c47
              clear t45 t46
              refine ur_push rfl ?_
              exact ur_ret rfl rfl (hQ _ _ ⟨_, rfl, Or.inl ⟨fun q => by omega, by omega, by omega⟩⟩ hO0 un.rf (by omega) pre0)
          · have t115 := eq_no c38
            refine ur_ldA rfl rfl ?_
            obtain ⟨hc116, k117⟩ := ok_0 hO0
            refine ur_get rfl hc116 rfl ?_
            refine ur_ldI rfl rfl ?_
            refine ur_inl rfl (rcv_of hc1) (Nat.le_of_ble_eq_true rfl) (Nat.le_of_ble_eq_true rfl) (sd_X1_isToldReign hO0 _ (fun w118 hr119 => ?_))
            obtain ⟨b120, rfl, t121, t122⟩ := hr119
            show uRun _ (uCall Mt _) _ 70 (_, [(.inl (bi b120))], _, _, _)
            refine ur_neB rfl (fun c123 => ?_) (fun c123 => ?_)
            · have t124 := t121 c123
              clear t121 t122
              refine ur_ldA rfl rfl ?_
              refine ur_get rfl hc116 rfl ?_
              refine ur_ldI rfl rfl ?_
              refine ur_ldI rfl rfl ?_
              refine ur_inl rfl (rcv_of hc1) (Nat.le_of_ble_eq_true rfl) (Nat.le_of_ble_eq_true rfl) (sd_X1_canBear hO0 _ _ pre0 (fun w125 hr126 => ?_))
              obtain ⟨b127, rfl, t128, t129⟩ := hr126
              show uRun _ (uCall Mt _) _ 85 (_, [(.inl (bi b127))], _, _, _)
              refine ur_neB rfl (fun c130 => ?_) (fun c130 => ?_)
              · have t131 := t128 c130
                clear t128 t129
                refine ur_ldA rfl rfl ?_
                refine ur_get rfl hc116 rfl ?_
                refine ur_get rfl hc1 rfl ?_
                refine ur_push rfl ?_
                refine ur_if2 rfl (fun c132 => ?_) (fun c132 => ?_)
                · have t133 := lt_to c132
                  refine ur_new rfl (Nat.le_of_ble_eq_true rfl) ?_
                  refine ur_dup rfl rfl ?_
                  refine ur_ldA rfl rfl ?_
                  refine ur_get rfl (hs_ap hc116) rfl ?_
                  refine ur_get rfl (hs_ap hc1) rfl ?_
                  refine ur_ldI rfl rfl ?_
                  refine ur_ldI rfl rfl ?_
                  refine ur_ldI rfl rfl ?_
                  refine ur_push rfl ?_
                  refine ur_if2 rfl (fun c135 => ?_) (fun c135 => ?_)
                  · have t136 := ne_to c135
                    refine ur_ldI rfl rfl ?_
                    refine ur_ldI rfl rfl ?_
                    refine ur_inl rfl (rcv_of ap_0) (Nat.le_of_ble_eq_true rfl) (Nat.le_of_ble_eq_true rfl) (sd_newWord hO0 _ _ _ _ _ (by show (0 ≤ f2.toInt ∧ f2.toInt ≤ 149) ∧ (0 ≤ x15.toInt ∧ x15.toInt ≤ 7) ∧ (0 ≤ x8.toInt ∧ x8.toInt ≤ 8) ∧ -1 ≤ x19.toInt ∧ x19.toInt ≤ 19; omega) (fun w137 h140 hr138 hO140 hv140 k139 hn143 hx141 => ?_))
                    have hc142 : h140[h0.length]? = some (.inl (10, [.inl f2, .inl x15, .inl x8, .inl x19, .inl a2, .inl 0, .inl 0, .inl 0, .inl (-1), .inr (.inr none), .inl 0, .inl 0, .inl 0])) := by rw [hx141]; exact ap_0
                    have hu140 : un [16, 45, 46, 2501, 9010, 22005, 22006, 22007, 22008, 22009, 22010, 22011, 22012] h0 h140 := hv140.mono (by decide)
                    subst hr138
                    show uRun _ (uCall Mt _) _ 138 (_, [(.inr (.inr (some h0.length)))], _, _, _)
                    refine ur_svAk [some (.inr (.inr (some 0))), some (.inl a1), some (.inl a2), some (.inl a3), some (.inl x8), some (.inl x15), some (.inl x19), some (.inr (.inr (some h0.length)))] rfl rfl ?_
                    refine ur_ldA rfl rfl ?_
                    refine ur_ldA rfl rfl ?_
                    refine ur_get rfl (hv140.ko (n := 8) hc116 rfl (wid_f (by decide)) (by decide)) rfl ?_
                    refine ur_get rfl (hv140.ko (n := 11) hc1 rfl (wid_f (by decide)) (by decide)) rfl ?_
                    have t144 := fO_of (k := 1) (hv140.ko (n := 11) hc1 rfl (wid_f (by decide)) (by decide)) rfl
                    refine ur_ldA rfl rfl ?_
                    refine ur_get rfl (hv140.ko (n := 8) hc116 rfl (wid_f (by decide)) (by decide)) rfl ?_
                    refine ur_get rfl (hv140.ko (n := 11) hc1 rfl (wid_f (by decide)) (by decide)) rfl ?_
                    refine ur_ldA rfl rfl ?_
                    refine ur_get rfl (hv140.ko (n := 8) hc116 rfl (wid_f (by decide)) (by decide)) rfl ?_
                    refine ur_get rfl (hv140.ko (n := 11) hc1 rfl (wid_f (by decide)) (by decide)) rfl ?_
                    obtain ⟨g161, f146, f147, f148, f149, f150, f151, f152, f153, f154, o158, f155, f156, f157, hc145, k159, k160⟩ := hO140.word k139.2
                    have t162 := fO_keep (a := 15) (ci := 1) (n := 11) (k := 1) hO0 hO140 hv140 (by decide) rfl (by decide) rfl (by decide)
                    refine ur_inl rfl (rcv_of hc145) (Nat.le_of_ble_eq_true rfl) (Nat.le_of_ble_eq_true rfl) (sf_X10_dateIt hO140 g161 k139.2 _ _ _ (fun w163 h165 hr164 hO165 hv165 => ?_))
                    have hu165 : un [16, 45, 46, 2501, 9010, 22005, 22006, 22007, 22008, 22009, 22010, 22011, 22012] h140 h165 := hv165.mono (by decide)
                    subst hr164
                    show uRun _ (uCall Mt _) _ 166 (_, [], _, _, _)
                    have t166 := fO_of (k := 1) (hv165.ko (n := 11) (hv140.ko (n := 11) hc1 rfl (wid_f (by decide)) (by decide)) rfl (wid_f (by decide)) (by decide)) rfl
                    refine ur_ldA rfl rfl ?_
                    refine ur_get rfl (hv165.ko (n := 8) (hv140.ko (n := 8) hc116 rfl (wid_f (by decide)) (by decide)) rfl (wid_f (by decide)) (by decide)) rfl ?_
                    obtain ⟨f168, f169, hc167, k170⟩ := ok_41 hO165
                    have t171 := fO_keep (a := 15) (ci := 1) (n := 11) (k := 1) hO140 hO165 hv165 (by decide) rfl (by decide) rfl (by decide)
                    refine ur_inl rfl (rcv_of hc167) (Nat.le_of_ble_eq_true rfl) (Nat.le_of_ble_eq_true rfl) (sf_X7_forgetWeights hO165  (fun w172 h174 hr173 hO174 hv174 => ?_))
                    have hu174 : un [16, 45, 46, 2501, 9010, 22005, 22006, 22007, 22008, 22009, 22010, 22011, 22012] h165 h174 := hv174.mono (by decide)
                    subst hr173
                    show uRun _ (uCall Mt _) _ 173 (_, [], _, _, _)
                    have t175 := fO_of (k := 1) (hv174.ko (n := 11) (hv165.ko (n := 11) (hv140.ko (n := 11) hc1 rfl (wid_f (by decide)) (by decide)) rfl (wid_f (by decide)) (by decide)) rfl (wid_f (by decide)) (by decide)) rfl
                    refine ur_ldA rfl rfl ?_
                    refine ur_get rfl (hv174.ko (n := 8) (hv165.ko (n := 8) (hv140.ko (n := 8) hc116 rfl (wid_f (by decide)) (by decide)) rfl (wid_f (by decide)) (by decide)) rfl (wid_f (by decide)) (by decide)) rfl ?_
                    refine ur_ldA rfl rfl ?_
                    refine ur_ldI rfl rfl ?_
                    have k176 : fO h174 h0.length 1 = (x15 : Int32).toInt := ((fO_kw hO165 hO174 hv174 g161 (hu165.tm k139.2 (by decide)) rfl (by decide)).trans ((fO_kw hO140 hO165 hv165 g161 k139.2 rfl (by decide)).trans (fO_of (k := 1) hc142 rfl)))
                    have t177 := fO_keep (a := 15) (ci := 1) (n := 11) (k := 1) hO165 hO174 hv174 (by decide) rfl (by decide) rfl (by decide)
                    refine ur_inl rfl (rcv_of (hv174.ko (n := 11) (hv165.ko (n := 11) (hv140.ko (n := 11) hc1 rfl (wid_f (by decide)) (by decide)) rfl (wid_f (by decide)) (by decide)) rfl (wid_f (by decide)) (by decide))) (Nat.le_of_ble_eq_true rfl) (Nat.le_of_ble_eq_true rfl) (sd_X1_addWord hO174 g161 (hu174.tm (hu165.tm k139.2 (by decide)) (by decide)) _ (((pre0.un hO0 hO140 hv140 (by decide) (by decide)).un hO140 hO165 hv165 (by decide) (by decide)).un hO165 hO174 hv174 (by decide) (by decide)) (by omega) (by rw [k176]; omega) (fun w178 h182 hr179 hO182 hv182 hp180 hp181 => ?_))
                    have hu182 : un [16, 45, 46, 2501, 9010, 22005, 22006, 22007, 22008, 22009, 22010, 22011, 22012] h174 h182 := hv182.mono (by decide)
                    obtain ⟨x183, rfl, t184⟩ := hr179
                    show uRun _ (uCall Mt _) _ 183 (_, [(.inl x183)], _, _, _)
                    obtain ⟨f186, f187, f188, f189, hc185, k190⟩ := ok_15 hO182
                    have t191 := fO_of (k := 1) hc185 rfl
                    have t192 := hv165.nW (by decide)
                    have t193 := hv174.nW (by decide)
                    have t194 := hv182.nW (by decide)
                    exact ur_ret rfl rfl (hQ _ _ ⟨_, rfl, Or.inr (Or.inr ⟨⟨⟨by omega, by omega, by omega, by omega, by omega⟩, by omega, fun q => by omega, fun q => by omega, fun q => by omega⟩, by omega, by omega, by omega⟩)⟩ hO182 (hu140.tr (hu165.tr (hu174.tr hu182))) (by omega) hp181)
                  · have t195 := ne_no c135
                    exfalso
                    omega
                · have t196 := lt_no c132
                  refine ur_push rfl ?_
                  exact ur_ret rfl rfl (hQ _ _ ⟨_, rfl, Or.inr (Or.inl ⟨⟨⟨by omega, by omega, by omega, by omega, by omega⟩, by omega, fun q => by omega, fun q => by omega, fun q => by omega⟩, by omega, by omega, by omega⟩)⟩ hO0 un.rf (by omega) pre0)
              · have t197 := t129 c130
                clear t128 t129
                refine ur_push rfl ?_
                exact ur_ret rfl rfl (hQ _ _ ⟨_, rfl, Or.inl ⟨fun q => by omega, by omega, by omega⟩⟩ hO0 un.rf (by omega) pre0)
            · have t198 := t122 c123
              clear t121 t122
              refine ur_push rfl ?_
              exact ur_ret rfl rfl (hQ _ _ ⟨_, rfl, Or.inl ⟨fun q => by omega, by omega, by omega⟩⟩ hO0 un.rf (by omega) pre0)
        · have t199 := wi_noL c36 l_0 l_400
          refine ur_push rfl ?_
          exact ur_ret rfl rfl (hQ _ _ ⟨_, rfl, Or.inl ⟨fun q => by omega, by omega, by omega⟩⟩ hO0 un.rf (by omega) pre0)

set_option maxRecDepth 20000 in
set_option maxHeartbeats 4000000 in
theorem sd_X11_addWordFromRow {d kc ks : Nat} {h0 : aH} {Q : Option aV → aH → Prop} (hO0 : OK h0) (a1 : Int32) (b1 : 0 ≤ a1.toInt ∧ a1.toInt ≤ 8) (a2 : Int32) (a3 : Int32) (pre0 : NA h0) (pre1 : ((0 ≤ a2.toInt ∧ a2.toInt ≤ 5) ∧ gI h0 58 a2.toInt = 2 ∧ 0 ≤ a3.toInt ∧ 0 ≤ 5 ∧ a3.toInt ≤ gI h0 61 a2.toInt ∧ 5 ≤ gI h0 61 a2.toInt - a3.toInt)) (hQ : ∀ r h', (∃ q, r = some (.inl (bi q)) ∧ (q = true → (((0 ≤ fl h0 (63 + a2.toInt.toNat) (a3.toInt + 0) ∧ fl h0 (63 + a2.toInt.toNat) (a3.toInt + 0) ≤ 9999) ∧ (0 ≤ fl h0 (63 + a2.toInt.toNat) (a3.toInt + 1) ∧ fl h0 (63 + a2.toInt.toNat) (a3.toInt + 1) ≤ 9999) ∧ (0 ≤ fl h0 (63 + a2.toInt.toNat) (a3.toInt + 2) ∧ fl h0 (63 + a2.toInt.toNat) (a3.toInt + 2) ≤ 9999) ∧ (0 ≤ fl h0 (63 + a2.toInt.toNat) (a3.toInt + 3) ∧ fl h0 (63 + a2.toInt.toNat) (a3.toInt + 3) ≤ 400) ∧ (fl h0 (63 + a2.toInt.toNat) (a3.toInt + 4) = 0 ∨ fl h0 (63 + a2.toInt.toNat) (a3.toInt + 4) = 4 ∨ fl h0 (63 + a2.toInt.toNat) (a3.toInt + 4) = 5)) ∧ fO h0 15 1 < 150) ∧ fO h' 15 1 = fO h0 15 1 + 1) ∧ (q = false → ¬ (((0 ≤ fl h0 (63 + a2.toInt.toNat) (a3.toInt + 0) ∧ fl h0 (63 + a2.toInt.toNat) (a3.toInt + 0) ≤ 9999) ∧ (0 ≤ fl h0 (63 + a2.toInt.toNat) (a3.toInt + 1) ∧ fl h0 (63 + a2.toInt.toNat) (a3.toInt + 1) ≤ 9999) ∧ (0 ≤ fl h0 (63 + a2.toInt.toNat) (a3.toInt + 2) ∧ fl h0 (63 + a2.toInt.toNat) (a3.toInt + 2) ≤ 9999) ∧ (0 ≤ fl h0 (63 + a2.toInt.toNat) (a3.toInt + 3) ∧ fl h0 (63 + a2.toInt.toNat) (a3.toInt + 3) ≤ 400) ∧ (fl h0 (63 + a2.toInt.toNat) (a3.toInt + 4) = 0 ∨ fl h0 (63 + a2.toInt.toNat) (a3.toInt + 4) = 4 ∨ fl h0 (63 + a2.toInt.toNat) (a3.toInt + 4) = 5)) ∧ fO h0 15 1 < 150) ∧ fO h' 15 1 = fO h0 15 1)) → OK h' → un [16, 45, 46, 2501, 9010, 22005, 22006, 22007, 22008, 22009, 22010, 22011, 22012] h0 h' → (nW h' ≤ nW h0 + 1) → (NA h') → Q r h') : uCall Mt (d + 7) 167 [(.inr (.inr (some 0))), (.inl a1), (.inl a2), (.inl a3)] h0 kc ks Q := by
  have l_m1 : ((-1) : Int32).toInt = -1 := by decide
  have l_0 : ((0) : Int32).toInt = 0 := by decide
  have l_1 : ((1) : Int32).toInt = 1 := by decide
  have l_2 : ((2) : Int32).toInt = 2 := by decide
  have l_3 : ((3) : Int32).toInt = 3 := by decide
  have l_4 : ((4) : Int32).toInt = 4 := by decide
  have l_5 : ((5) : Int32).toInt = 5 := by decide
  have l_150 : ((150) : Int32).toInt = 150 := by decide
  have l_400 : ((400) : Int32).toInt = 400 := by decide
  have l_9999 : ((9999) : Int32).toInt = 9999 := by decide
  refine uc_ink [some (.inr (.inr (some 0))), some (.inl a1), some (.inl a2), some (.inl a3), none, none, none, none, none, none] mt_167 (Nat.le_of_ble_eq_true rfl) rfl ?_
  obtain ⟨f2, f3, f4, f5, hc1, k6⟩ := ok_15 hO0
  have t7 := fO_of (k := 1) hc1 rfl
  have t8 := gI61 hO0 a2.toInt
  refine ur_ldA rfl rfl ?_
  have t9 : 0 ≤ a3.toInt ∧ a3.toInt ≤ 55 := by omega
  obtain ⟨hc10, k11⟩ := ok_0 hO0
  refine ur_get rfl hc10 rfl ?_
  refine ur_ldI rfl rfl ?_
  refine ur_ldI rfl rfl ?_
  obtain ⟨hc12, k13⟩ := ok_57 hO0
  refine ur_inl rfl (rcv_of hc12) (Nat.le_of_ble_eq_true rfl) (Nat.le_of_ble_eq_true rfl) (sd_X4_read hO0 _ _ (fun w14 hr15 => ?_))
  obtain ⟨y16, rfl, f17⟩ := hr15
  show uRun _ (uCall Mt _) _ 9 (_, [(.inr (.inl y16))], _, _, _)
  refine ur_l2iV rfl (fun x18 e19 => ?_)
  have t20 : fl h0 (63 + a2.toInt.toNat) (a3.toInt + 0) = x18.toInt := fl_of (by omega) (f17 (by omega)) e19
  clear f17
  refine ur_svIk [some (.inr (.inr (some 0))), some (.inl a1), some (.inl a2), some (.inl a3), some (.inl x18), none, none, none, none, none] rfl rfl ?_
  refine ur_ldA rfl rfl ?_
  refine ur_get rfl hc10 rfl ?_
  refine ur_ldI rfl rfl ?_
  refine ur_ldI rfl rfl ?_
  refine ur_push rfl ?_
  refine ur_binV rfl (fun x21 e22 => ?_)
  have z23 := any_r a3
  have t24 := ti_add e22 (by omega) (by omega)
  refine ur_inl rfl (rcv_of hc12) (Nat.le_of_ble_eq_true rfl) (Nat.le_of_ble_eq_true rfl) (sd_X4_read hO0 _ _ (fun w25 hr26 => ?_))
  obtain ⟨y27, rfl, f28⟩ := hr26
  show uRun _ (uCall Mt _) _ 23 (_, [(.inr (.inl y27))], _, _, _)
  refine ur_l2iV rfl (fun x29 e30 => ?_)
  have t31 : fl h0 (63 + a2.toInt.toNat) (a3.toInt + 1) = x29.toInt := fl_of (by omega) (f28 (by omega)) e30
  clear f28
  refine ur_svIk [some (.inr (.inr (some 0))), some (.inl a1), some (.inl a2), some (.inl a3), some (.inl x18), some (.inl x29), none, none, none, none] rfl rfl ?_
  refine ur_ldA rfl rfl ?_
  refine ur_get rfl hc10 rfl ?_
  refine ur_ldI rfl rfl ?_
  refine ur_ldI rfl rfl ?_
  refine ur_push rfl ?_
  refine ur_binV rfl (fun x32 e33 => ?_)
  have t34 := ti_add e33 (by omega) (by omega)
  refine ur_inl rfl (rcv_of hc12) (Nat.le_of_ble_eq_true rfl) (Nat.le_of_ble_eq_true rfl) (sd_X4_read hO0 _ _ (fun w35 hr36 => ?_))
  obtain ⟨y37, rfl, f38⟩ := hr36
  show uRun _ (uCall Mt _) _ 37 (_, [(.inr (.inl y37))], _, _, _)
  refine ur_l2iV rfl (fun x39 e40 => ?_)
  have t41 : fl h0 (63 + a2.toInt.toNat) (a3.toInt + 2) = x39.toInt := fl_of (by omega) (f38 (by omega)) e40
  clear f38
  refine ur_svIk [some (.inr (.inr (some 0))), some (.inl a1), some (.inl a2), some (.inl a3), some (.inl x18), some (.inl x29), some (.inl x39), none, none, none] rfl rfl ?_
  refine ur_ldA rfl rfl ?_
  refine ur_get rfl hc10 rfl ?_
  refine ur_ldI rfl rfl ?_
  refine ur_ldI rfl rfl ?_
  refine ur_push rfl ?_
  refine ur_binV rfl (fun x42 e43 => ?_)
  have t44 := ti_add e43 (by omega) (by omega)
  refine ur_inl rfl (rcv_of hc12) (Nat.le_of_ble_eq_true rfl) (Nat.le_of_ble_eq_true rfl) (sd_X4_read hO0 _ _ (fun w45 hr46 => ?_))
  obtain ⟨y47, rfl, f48⟩ := hr46
  show uRun _ (uCall Mt _) _ 51 (_, [(.inr (.inl y47))], _, _, _)
  refine ur_l2iV rfl (fun x49 e50 => ?_)
  have t51 : fl h0 (63 + a2.toInt.toNat) (a3.toInt + 3) = x49.toInt := fl_of (by omega) (f48 (by omega)) e50
  clear f48
  refine ur_svIk [some (.inr (.inr (some 0))), some (.inl a1), some (.inl a2), some (.inl a3), some (.inl x18), some (.inl x29), some (.inl x39), some (.inl x49), none, none] rfl rfl ?_
  refine ur_ldA rfl rfl ?_
  refine ur_get rfl hc10 rfl ?_
  refine ur_ldI rfl rfl ?_
  refine ur_ldI rfl rfl ?_
  refine ur_push rfl ?_
  refine ur_binV rfl (fun x52 e53 => ?_)
  have t54 := ti_add e53 (by omega) (by omega)
  refine ur_inl rfl (rcv_of hc12) (Nat.le_of_ble_eq_true rfl) (Nat.le_of_ble_eq_true rfl) (sd_X4_read hO0 _ _ (fun w55 hr56 => ?_))
  obtain ⟨y57, rfl, f58⟩ := hr56
  show uRun _ (uCall Mt _) _ 65 (_, [(.inr (.inl y57))], _, _, _)
  refine ur_l2iV rfl (fun x59 e60 => ?_)
  have t61 : fl h0 (63 + a2.toInt.toNat) (a3.toInt + 4) = x59.toInt := fl_of (by omega) (f58 (by omega)) e60
  clear f58
  refine ur_svIk [some (.inr (.inr (some 0))), some (.inl a1), some (.inl a2), some (.inl a3), some (.inl x18), some (.inl x29), some (.inl x39), some (.inl x49), some (.inl x59), none] rfl rfl ?_
  refine ur_ldI rfl rfl ?_
  refine ur_callv rfl rfl (Nat.le_of_ble_eq_true rfl) (Nat.le_of_ble_eq_true rfl) rfl (sp_isDat _ _) ?_
  refine ur_eqB rfl (fun c64 => ?_) (fun c64 => ?_)
  · have t65 := wi_noL c64 l_0 l_9999
    refine ur_push rfl ?_
    exact ur_ret rfl rfl (hQ _ _ ⟨false, rfl, fun e => absurd e (by decide), fun _ => by omega⟩ hO0 un.rf (by omega) pre0)
  · have t66 := wi_toL c64 l_0 l_9999
    refine ur_ldI rfl rfl ?_
    refine ur_callv rfl rfl (Nat.le_of_ble_eq_true rfl) (Nat.le_of_ble_eq_true rfl) rfl (sp_isDat _ _) ?_
    refine ur_eqB rfl (fun c69 => ?_) (fun c69 => ?_)
    · have t70 := wi_noL c69 l_0 l_9999
      refine ur_push rfl ?_
      exact ur_ret rfl rfl (hQ _ _ ⟨false, rfl, fun e => absurd e (by decide), fun _ => by omega⟩ hO0 un.rf (by omega) pre0)
    · have t71 := wi_toL c69 l_0 l_9999
      refine ur_ldI rfl rfl ?_
      refine ur_callv rfl rfl (Nat.le_of_ble_eq_true rfl) (Nat.le_of_ble_eq_true rfl) rfl (sp_isDat _ _) ?_
      refine ur_eqB rfl (fun c74 => ?_) (fun c74 => ?_)
      · have t75 := wi_noL c74 l_0 l_9999
        refine ur_push rfl ?_
        exact ur_ret rfl rfl (hQ _ _ ⟨false, rfl, fun e => absurd e (by decide), fun _ => by omega⟩ hO0 un.rf (by omega) pre0)
      · have t76 := wi_toL c74 l_0 l_9999
        refine ur_ldI rfl rfl ?_
        refine ur_push rfl ?_
        refine ur_push rfl ?_
        refine ur_callv rfl rfl (Nat.le_of_ble_eq_true rfl) (Nat.le_of_ble_eq_true rfl) rfl (sp_within _ _ _ _ _) ?_
        refine ur_neB rfl (fun c79 => ?_) (fun c79 => ?_)
        · have t80 := wi_toL c79 l_0 l_400
          refine ur_ldI rfl rfl ?_
          refine ur_if1 rfl (fun c81 => ?_) (fun c81 => ?_)
          · have t82 := eq_to c81
            refine ur_ldA rfl rfl ?_
            refine ur_get rfl hc10 rfl ?_
            refine ur_get rfl hc1 rfl ?_
            refine ur_push rfl ?_
            refine ur_if2 rfl (fun c83 => ?_) (fun c83 => ?_)
            · have t84 := lt_to c83
              refine ur_new rfl (Nat.le_of_ble_eq_true rfl) ?_
              refine ur_dup rfl rfl ?_
              refine ur_ldA rfl rfl ?_
              refine ur_get rfl (hs_ap hc10) rfl ?_
              refine ur_get rfl (hs_ap hc1) rfl ?_
              refine ur_ldI rfl rfl ?_
              refine ur_ldI rfl rfl ?_
              refine ur_push rfl ?_
              refine ur_ldI rfl rfl ?_
              refine ur_inl rfl (rcv_of ap_0) (Nat.le_of_ble_eq_true rfl) (Nat.le_of_ble_eq_true rfl) (sd_newWord hO0 _ _ _ _ _ (by show (0 ≤ f2.toInt ∧ f2.toInt ≤ 149) ∧ (0 ≤ x59.toInt ∧ x59.toInt ≤ 7) ∧ (0 ≤ a1.toInt ∧ a1.toInt ≤ 8) ∧ -1 ≤ ((-1) : Int32).toInt ∧ ((-1) : Int32).toInt ≤ 19; omega) (fun w86 h89 hr87 hO89 hv89 k88 hn92 hx90 => ?_))
              have hc91 : h89[h0.length]? = some (.inl (10, [.inl f2, .inl x59, .inl a1, .inl (-1), .inl x49, .inl 0, .inl 0, .inl 0, .inl (-1), .inr (.inr none), .inl 0, .inl 0, .inl 0])) := by rw [hx90]; exact ap_0
              have hu89 : un [16, 45, 46, 2501, 9010, 22005, 22006, 22007, 22008, 22009, 22010, 22011, 22012] h0 h89 := hv89.mono (by decide)
              subst hr87
              show uRun _ (uCall Mt _) _ 160 (_, [(.inr (.inr (some h0.length)))], _, _, _)
              refine ur_svAk [some (.inr (.inr (some 0))), some (.inl a1), some (.inl a2), some (.inl a3), some (.inl x18), some (.inl x29), some (.inl x39), some (.inl x49), some (.inl x59), some (.inr (.inr (some h0.length)))] rfl rfl ?_
              refine ur_ldA rfl rfl ?_
              refine ur_ldI rfl rfl ?_
              refine ur_ldI rfl rfl ?_
              refine ur_ldI rfl rfl ?_
              obtain ⟨g109, f94, f95, f96, f97, f98, f99, f100, f101, f102, o106, f103, f104, f105, hc93, k107, k108⟩ := hO89.word k88.2
              have t110 := fO_keep (a := 15) (ci := 1) (n := 11) (k := 1) hO0 hO89 hv89 (by decide) rfl (by decide) rfl (by decide)
              refine ur_inl rfl (rcv_of hc93) (Nat.le_of_ble_eq_true rfl) (Nat.le_of_ble_eq_true rfl) (sf_X10_dateIt hO89 g109 k88.2 _ _ _ (fun w111 h113 hr112 hO113 hv113 => ?_))
              have hu113 : un [16, 45, 46, 2501, 9010, 22005, 22006, 22007, 22008, 22009, 22010, 22011, 22012] h89 h113 := hv113.mono (by decide)
              subst hr112
              show uRun _ (uCall Mt _) _ 173 (_, [], _, _, _)
              have t114 := fO_of (k := 1) (hv113.ko (n := 11) (hv89.ko (n := 11) hc1 rfl (wid_f (by decide)) (by decide)) rfl (wid_f (by decide)) (by decide)) rfl
              refine ur_ldA rfl rfl ?_
              refine ur_get rfl (hv113.ko (n := 8) (hv89.ko (n := 8) hc10 rfl (wid_f (by decide)) (by decide)) rfl (wid_f (by decide)) (by decide)) rfl ?_
              obtain ⟨f116, f117, hc115, k118⟩ := ok_41 hO113
              have t119 := fO_keep (a := 15) (ci := 1) (n := 11) (k := 1) hO89 hO113 hv113 (by decide) rfl (by decide) rfl (by decide)
              refine ur_inl rfl (rcv_of hc115) (Nat.le_of_ble_eq_true rfl) (Nat.le_of_ble_eq_true rfl) (sf_X7_forgetWeights hO113  (fun w120 h122 hr121 hO122 hv122 => ?_))
              have hu122 : un [16, 45, 46, 2501, 9010, 22005, 22006, 22007, 22008, 22009, 22010, 22011, 22012] h113 h122 := hv122.mono (by decide)
              subst hr121
              show uRun _ (uCall Mt _) _ 180 (_, [], _, _, _)
              have t123 := fO_of (k := 1) (hv122.ko (n := 11) (hv113.ko (n := 11) (hv89.ko (n := 11) hc1 rfl (wid_f (by decide)) (by decide)) rfl (wid_f (by decide)) (by decide)) rfl (wid_f (by decide)) (by decide)) rfl
              refine ur_ldA rfl rfl ?_
              refine ur_get rfl (hv122.ko (n := 8) (hv113.ko (n := 8) (hv89.ko (n := 8) hc10 rfl (wid_f (by decide)) (by decide)) rfl (wid_f (by decide)) (by decide)) rfl (wid_f (by decide)) (by decide)) rfl ?_
              refine ur_ldA rfl rfl ?_
              refine ur_push rfl ?_
              have k124 : fO h122 h0.length 1 = (x59 : Int32).toInt := ((fO_kw hO113 hO122 hv122 g109 (hu113.tm k88.2 (by decide)) rfl (by decide)).trans ((fO_kw hO89 hO113 hv113 g109 k88.2 rfl (by decide)).trans (fO_of (k := 1) hc91 rfl)))
              have t125 := fO_keep (a := 15) (ci := 1) (n := 11) (k := 1) hO113 hO122 hv122 (by decide) rfl (by decide) rfl (by decide)
              refine ur_inl rfl (rcv_of (hv122.ko (n := 11) (hv113.ko (n := 11) (hv89.ko (n := 11) hc1 rfl (wid_f (by decide)) (by decide)) rfl (wid_f (by decide)) (by decide)) rfl (wid_f (by decide)) (by decide))) (Nat.le_of_ble_eq_true rfl) (Nat.le_of_ble_eq_true rfl) (sd_X1_addWord hO122 g109 (hu122.tm (hu113.tm k88.2 (by decide)) (by decide)) _ (((pre0.un hO0 hO89 hv89 (by decide) (by decide)).un hO89 hO113 hv113 (by decide) (by decide)).un hO113 hO122 hv122 (by decide) (by decide)) (by omega) (by rw [k124]; omega) (fun w126 h130 hr127 hO130 hv130 hp128 hp129 => ?_))
              have hu130 : un [16, 45, 46, 2501, 9010, 22005, 22006, 22007, 22008, 22009, 22010, 22011, 22012] h122 h130 := hv130.mono (by decide)
              obtain ⟨x131, rfl, t132⟩ := hr127
              show uRun _ (uCall Mt _) _ 190 (_, [(.inl x131)], _, _, _)
              obtain ⟨f134, f135, f136, f137, hc133, k138⟩ := ok_15 hO130
              have t139 := fO_of (k := 1) hc133 rfl
              refine ur_pop rfl rfl ?_
              refine ur_push rfl ?_
              have t140 := hv113.nW (by decide)
              have t141 := hv122.nW (by decide)
              have t142 := hv130.nW (by decide)
              exact ur_ret rfl rfl (hQ _ _ ⟨true, rfl, fun _ => by omega, fun e => absurd e (by decide)⟩ hO130 (hu89.tr (hu113.tr (hu122.tr hu130))) (by omega) hp129)
            · have t143 := lt_no c83
              refine ur_push rfl ?_
              exact ur_ret rfl rfl (hQ _ _ ⟨false, rfl, fun e => absurd e (by decide), fun _ => by omega⟩ hO0 un.rf (by omega) pre0)
          · have t144 := eq_no c81
            refine ur_ldI rfl rfl ?_
            refine ur_push rfl ?_
            refine ur_if2 rfl (fun c145 => ?_) (fun c145 => ?_)
            · have t146 := eq_to c145
              refine ur_ldA rfl rfl ?_
              refine ur_get rfl hc10 rfl ?_
              refine ur_get rfl hc1 rfl ?_
              refine ur_push rfl ?_
              refine ur_if2 rfl (fun c147 => ?_) (fun c147 => ?_)
              · have t148 := lt_to c147
                refine ur_new rfl (Nat.le_of_ble_eq_true rfl) ?_
                refine ur_dup rfl rfl ?_
                refine ur_ldA rfl rfl ?_
                refine ur_get rfl (hs_ap hc10) rfl ?_
                refine ur_get rfl (hs_ap hc1) rfl ?_
                refine ur_ldI rfl rfl ?_
                refine ur_ldI rfl rfl ?_
                refine ur_push rfl ?_
                refine ur_ldI rfl rfl ?_
                refine ur_inl rfl (rcv_of ap_0) (Nat.le_of_ble_eq_true rfl) (Nat.le_of_ble_eq_true rfl) (sd_newWord hO0 _ _ _ _ _ (by show (0 ≤ f2.toInt ∧ f2.toInt ≤ 149) ∧ (0 ≤ x59.toInt ∧ x59.toInt ≤ 7) ∧ (0 ≤ a1.toInt ∧ a1.toInt ≤ 8) ∧ -1 ≤ ((-1) : Int32).toInt ∧ ((-1) : Int32).toInt ≤ 19; omega) (fun w150 h153 hr151 hO153 hv153 k152 hn156 hx154 => ?_))
                have hc155 : h153[h0.length]? = some (.inl (10, [.inl f2, .inl x59, .inl a1, .inl (-1), .inl x49, .inl 0, .inl 0, .inl 0, .inl (-1), .inr (.inr none), .inl 0, .inl 0, .inl 0])) := by rw [hx154]; exact ap_0
                have hu153 : un [16, 45, 46, 2501, 9010, 22005, 22006, 22007, 22008, 22009, 22010, 22011, 22012] h0 h153 := hv153.mono (by decide)
                subst hr151
                show uRun _ (uCall Mt _) _ 160 (_, [(.inr (.inr (some h0.length)))], _, _, _)
                refine ur_svAk [some (.inr (.inr (some 0))), some (.inl a1), some (.inl a2), some (.inl a3), some (.inl x18), some (.inl x29), some (.inl x39), some (.inl x49), some (.inl x59), some (.inr (.inr (some h0.length)))] rfl rfl ?_
                refine ur_ldA rfl rfl ?_
                refine ur_ldI rfl rfl ?_
                refine ur_ldI rfl rfl ?_
                refine ur_ldI rfl rfl ?_
                obtain ⟨g173, f158, f159, f160, f161, f162, f163, f164, f165, f166, o170, f167, f168, f169, hc157, k171, k172⟩ := hO153.word k152.2
                have t174 := fO_keep (a := 15) (ci := 1) (n := 11) (k := 1) hO0 hO153 hv153 (by decide) rfl (by decide) rfl (by decide)
                refine ur_inl rfl (rcv_of hc157) (Nat.le_of_ble_eq_true rfl) (Nat.le_of_ble_eq_true rfl) (sf_X10_dateIt hO153 g173 k152.2 _ _ _ (fun w175 h177 hr176 hO177 hv177 => ?_))
                have hu177 : un [16, 45, 46, 2501, 9010, 22005, 22006, 22007, 22008, 22009, 22010, 22011, 22012] h153 h177 := hv177.mono (by decide)
                subst hr176
                show uRun _ (uCall Mt _) _ 173 (_, [], _, _, _)
                have t178 := fO_of (k := 1) (hv177.ko (n := 11) (hv153.ko (n := 11) hc1 rfl (wid_f (by decide)) (by decide)) rfl (wid_f (by decide)) (by decide)) rfl
                refine ur_ldA rfl rfl ?_
                refine ur_get rfl (hv177.ko (n := 8) (hv153.ko (n := 8) hc10 rfl (wid_f (by decide)) (by decide)) rfl (wid_f (by decide)) (by decide)) rfl ?_
                obtain ⟨f180, f181, hc179, k182⟩ := ok_41 hO177
                have t183 := fO_keep (a := 15) (ci := 1) (n := 11) (k := 1) hO153 hO177 hv177 (by decide) rfl (by decide) rfl (by decide)
                refine ur_inl rfl (rcv_of hc179) (Nat.le_of_ble_eq_true rfl) (Nat.le_of_ble_eq_true rfl) (sf_X7_forgetWeights hO177  (fun w184 h186 hr185 hO186 hv186 => ?_))
                have hu186 : un [16, 45, 46, 2501, 9010, 22005, 22006, 22007, 22008, 22009, 22010, 22011, 22012] h177 h186 := hv186.mono (by decide)
                subst hr185
                show uRun _ (uCall Mt _) _ 180 (_, [], _, _, _)
                have t187 := fO_of (k := 1) (hv186.ko (n := 11) (hv177.ko (n := 11) (hv153.ko (n := 11) hc1 rfl (wid_f (by decide)) (by decide)) rfl (wid_f (by decide)) (by decide)) rfl (wid_f (by decide)) (by decide)) rfl
                refine ur_ldA rfl rfl ?_
                refine ur_get rfl (hv186.ko (n := 8) (hv177.ko (n := 8) (hv153.ko (n := 8) hc10 rfl (wid_f (by decide)) (by decide)) rfl (wid_f (by decide)) (by decide)) rfl (wid_f (by decide)) (by decide)) rfl ?_
                refine ur_ldA rfl rfl ?_
                refine ur_push rfl ?_
                have k188 : fO h186 h0.length 1 = (x59 : Int32).toInt := ((fO_kw hO177 hO186 hv186 g173 (hu177.tm k152.2 (by decide)) rfl (by decide)).trans ((fO_kw hO153 hO177 hv177 g173 k152.2 rfl (by decide)).trans (fO_of (k := 1) hc155 rfl)))
                have t189 := fO_keep (a := 15) (ci := 1) (n := 11) (k := 1) hO177 hO186 hv186 (by decide) rfl (by decide) rfl (by decide)
                refine ur_inl rfl (rcv_of (hv186.ko (n := 11) (hv177.ko (n := 11) (hv153.ko (n := 11) hc1 rfl (wid_f (by decide)) (by decide)) rfl (wid_f (by decide)) (by decide)) rfl (wid_f (by decide)) (by decide))) (Nat.le_of_ble_eq_true rfl) (Nat.le_of_ble_eq_true rfl) (sd_X1_addWord hO186 g173 (hu186.tm (hu177.tm k152.2 (by decide)) (by decide)) _ (((pre0.un hO0 hO153 hv153 (by decide) (by decide)).un hO153 hO177 hv177 (by decide) (by decide)).un hO177 hO186 hv186 (by decide) (by decide)) (by omega) (by rw [k188]; omega) (fun w190 h194 hr191 hO194 hv194 hp192 hp193 => ?_))
                have hu194 : un [16, 45, 46, 2501, 9010, 22005, 22006, 22007, 22008, 22009, 22010, 22011, 22012] h186 h194 := hv194.mono (by decide)
                obtain ⟨x195, rfl, t196⟩ := hr191
                show uRun _ (uCall Mt _) _ 190 (_, [(.inl x195)], _, _, _)
                obtain ⟨f198, f199, f200, f201, hc197, k202⟩ := ok_15 hO194
                have t203 := fO_of (k := 1) hc197 rfl
                refine ur_pop rfl rfl ?_
                refine ur_push rfl ?_
                have t204 := hv177.nW (by decide)
                have t205 := hv186.nW (by decide)
                have t206 := hv194.nW (by decide)
                exact ur_ret rfl rfl (hQ _ _ ⟨true, rfl, fun _ => by omega, fun e => absurd e (by decide)⟩ hO194 (hu153.tr (hu177.tr (hu186.tr hu194))) (by omega) hp193)
              · have t207 := lt_no c147
                refine ur_push rfl ?_
                exact ur_ret rfl rfl (hQ _ _ ⟨false, rfl, fun e => absurd e (by decide), fun _ => by omega⟩ hO0 un.rf (by omega) pre0)
            · have t208 := eq_no c145
              refine ur_ldI rfl rfl ?_
              refine ur_push rfl ?_
              refine ur_if2 rfl (fun c209 => ?_) (fun c209 => ?_)
              · have t210 := eq_to c209
                refine ur_ldA rfl rfl ?_
                refine ur_get rfl hc10 rfl ?_
                refine ur_get rfl hc1 rfl ?_
                refine ur_push rfl ?_
                refine ur_if2 rfl (fun c211 => ?_) (fun c211 => ?_)
                · have t212 := lt_to c211
                  refine ur_new rfl (Nat.le_of_ble_eq_true rfl) ?_
                  refine ur_dup rfl rfl ?_
                  refine ur_ldA rfl rfl ?_
                  refine ur_get rfl (hs_ap hc10) rfl ?_
                  refine ur_get rfl (hs_ap hc1) rfl ?_
                  refine ur_ldI rfl rfl ?_
                  refine ur_ldI rfl rfl ?_
                  refine ur_push rfl ?_
                  refine ur_ldI rfl rfl ?_
                  refine ur_inl rfl (rcv_of ap_0) (Nat.le_of_ble_eq_true rfl) (Nat.le_of_ble_eq_true rfl) (sd_newWord hO0 _ _ _ _ _ (by show (0 ≤ f2.toInt ∧ f2.toInt ≤ 149) ∧ (0 ≤ x59.toInt ∧ x59.toInt ≤ 7) ∧ (0 ≤ a1.toInt ∧ a1.toInt ≤ 8) ∧ -1 ≤ ((-1) : Int32).toInt ∧ ((-1) : Int32).toInt ≤ 19; omega) (fun w214 h217 hr215 hO217 hv217 k216 hn220 hx218 => ?_))
                  have hc219 : h217[h0.length]? = some (.inl (10, [.inl f2, .inl x59, .inl a1, .inl (-1), .inl x49, .inl 0, .inl 0, .inl 0, .inl (-1), .inr (.inr none), .inl 0, .inl 0, .inl 0])) := by rw [hx218]; exact ap_0
                  have hu217 : un [16, 45, 46, 2501, 9010, 22005, 22006, 22007, 22008, 22009, 22010, 22011, 22012] h0 h217 := hv217.mono (by decide)
                  subst hr215
                  show uRun _ (uCall Mt _) _ 160 (_, [(.inr (.inr (some h0.length)))], _, _, _)
                  refine ur_svAk [some (.inr (.inr (some 0))), some (.inl a1), some (.inl a2), some (.inl a3), some (.inl x18), some (.inl x29), some (.inl x39), some (.inl x49), some (.inl x59), some (.inr (.inr (some h0.length)))] rfl rfl ?_
                  refine ur_ldA rfl rfl ?_
                  refine ur_ldI rfl rfl ?_
                  refine ur_ldI rfl rfl ?_
                  refine ur_ldI rfl rfl ?_
                  obtain ⟨g237, f222, f223, f224, f225, f226, f227, f228, f229, f230, o234, f231, f232, f233, hc221, k235, k236⟩ := hO217.word k216.2
                  have t238 := fO_keep (a := 15) (ci := 1) (n := 11) (k := 1) hO0 hO217 hv217 (by decide) rfl (by decide) rfl (by decide)
                  refine ur_inl rfl (rcv_of hc221) (Nat.le_of_ble_eq_true rfl) (Nat.le_of_ble_eq_true rfl) (sf_X10_dateIt hO217 g237 k216.2 _ _ _ (fun w239 h241 hr240 hO241 hv241 => ?_))
                  have hu241 : un [16, 45, 46, 2501, 9010, 22005, 22006, 22007, 22008, 22009, 22010, 22011, 22012] h217 h241 := hv241.mono (by decide)
                  subst hr240
                  show uRun _ (uCall Mt _) _ 173 (_, [], _, _, _)
                  have t242 := fO_of (k := 1) (hv241.ko (n := 11) (hv217.ko (n := 11) hc1 rfl (wid_f (by decide)) (by decide)) rfl (wid_f (by decide)) (by decide)) rfl
                  refine ur_ldA rfl rfl ?_
                  refine ur_get rfl (hv241.ko (n := 8) (hv217.ko (n := 8) hc10 rfl (wid_f (by decide)) (by decide)) rfl (wid_f (by decide)) (by decide)) rfl ?_
                  obtain ⟨f244, f245, hc243, k246⟩ := ok_41 hO241
                  have t247 := fO_keep (a := 15) (ci := 1) (n := 11) (k := 1) hO217 hO241 hv241 (by decide) rfl (by decide) rfl (by decide)
                  refine ur_inl rfl (rcv_of hc243) (Nat.le_of_ble_eq_true rfl) (Nat.le_of_ble_eq_true rfl) (sf_X7_forgetWeights hO241  (fun w248 h250 hr249 hO250 hv250 => ?_))
                  have hu250 : un [16, 45, 46, 2501, 9010, 22005, 22006, 22007, 22008, 22009, 22010, 22011, 22012] h241 h250 := hv250.mono (by decide)
                  subst hr249
                  show uRun _ (uCall Mt _) _ 180 (_, [], _, _, _)
                  have t251 := fO_of (k := 1) (hv250.ko (n := 11) (hv241.ko (n := 11) (hv217.ko (n := 11) hc1 rfl (wid_f (by decide)) (by decide)) rfl (wid_f (by decide)) (by decide)) rfl (wid_f (by decide)) (by decide)) rfl
                  refine ur_ldA rfl rfl ?_
                  refine ur_get rfl (hv250.ko (n := 8) (hv241.ko (n := 8) (hv217.ko (n := 8) hc10 rfl (wid_f (by decide)) (by decide)) rfl (wid_f (by decide)) (by decide)) rfl (wid_f (by decide)) (by decide)) rfl ?_
                  refine ur_ldA rfl rfl ?_
                  refine ur_push rfl ?_
                  have k252 : fO h250 h0.length 1 = (x59 : Int32).toInt := ((fO_kw hO241 hO250 hv250 g237 (hu241.tm k216.2 (by decide)) rfl (by decide)).trans ((fO_kw hO217 hO241 hv241 g237 k216.2 rfl (by decide)).trans (fO_of (k := 1) hc219 rfl)))
                  have t253 := fO_keep (a := 15) (ci := 1) (n := 11) (k := 1) hO241 hO250 hv250 (by decide) rfl (by decide) rfl (by decide)
                  refine ur_inl rfl (rcv_of (hv250.ko (n := 11) (hv241.ko (n := 11) (hv217.ko (n := 11) hc1 rfl (wid_f (by decide)) (by decide)) rfl (wid_f (by decide)) (by decide)) rfl (wid_f (by decide)) (by decide))) (Nat.le_of_ble_eq_true rfl) (Nat.le_of_ble_eq_true rfl) (sd_X1_addWord hO250 g237 (hu250.tm (hu241.tm k216.2 (by decide)) (by decide)) _ (((pre0.un hO0 hO217 hv217 (by decide) (by decide)).un hO217 hO241 hv241 (by decide) (by decide)).un hO241 hO250 hv250 (by decide) (by decide)) (by omega) (by rw [k252]; omega) (fun w254 h258 hr255 hO258 hv258 hp256 hp257 => ?_))
                  have hu258 : un [16, 45, 46, 2501, 9010, 22005, 22006, 22007, 22008, 22009, 22010, 22011, 22012] h250 h258 := hv258.mono (by decide)
                  obtain ⟨x259, rfl, t260⟩ := hr255
                  show uRun _ (uCall Mt _) _ 190 (_, [(.inl x259)], _, _, _)
                  obtain ⟨f262, f263, f264, f265, hc261, k266⟩ := ok_15 hO258
                  have t267 := fO_of (k := 1) hc261 rfl
                  refine ur_pop rfl rfl ?_
                  refine ur_push rfl ?_
                  have t268 := hv241.nW (by decide)
                  have t269 := hv250.nW (by decide)
                  have t270 := hv258.nW (by decide)
                  exact ur_ret rfl rfl (hQ _ _ ⟨true, rfl, fun _ => by omega, fun e => absurd e (by decide)⟩ hO258 (hu217.tr (hu241.tr (hu250.tr hu258))) (by omega) hp257)
                · have t271 := lt_no c211
                  refine ur_push rfl ?_
                  exact ur_ret rfl rfl (hQ _ _ ⟨false, rfl, fun e => absurd e (by decide), fun _ => by omega⟩ hO0 un.rf (by omega) pre0)
              · have t272 := eq_no c209
                refine ur_push rfl ?_
                exact ur_ret rfl rfl (hQ _ _ ⟨false, rfl, fun e => absurd e (by decide), fun _ => by omega⟩ hO0 un.rf (by omega) pre0)
        · have t273 := wi_noL c79 l_0 l_400
          refine ur_push rfl ?_
          exact ur_ret rfl rfl (hQ _ _ ⟨false, rfl, fun e => absurd e (by decide), fun _ => by omega⟩ hO0 un.rf (by omega) pre0)
end WRD
