/-! WORDS: how many there are, printed by program but for its head -/
section WRD
theorem NA.un {W : List Nat} {h h' : aH} (hN : NA h) (hO : OK h) (hO' : OK h') (g : un W h h') (h1 : 16 ∉ W) (h2 : 2501 ∉ W) : NA h' := by
  intro i hi
  rw [fO_keep (a := 15) (ci := 1) (n := 11) (k := 1) hO hO' g (by decide) rfl (by decide) rfl h2] at hi
  obtain ⟨z, hz⟩ := hN i hi
  obtain ⟨x, hc, hn, hs⟩ := hO.arr (hO.fix 16 (by decide) rfl) (by decide)
  obtain ⟨xs, rfl, _⟩ : ∃ xs, x = .inr (.inr xs) ∧ _ := hs
  refine ⟨z, ?_⟩
  rw [arR_of (g.ka hc hn (by decide) (by decide) (wid_f (by decide)) h1), ← arR_of hc]
  exact hz
theorem NA_push {h h1 h2 : aH} {kd kd' : Nat} {xs : List (Option Nat)} {j : Int32} {v : Nat} (hN : NA h) (pf : h[16]? = some (.inr (kd, .inr (.inr xs)))) (c : h1[16]? = some (.inr (kd', .inr (.inr (xs.set j.toInt.toNat (some v)))))) (hj : j.toInt = fO h 15 1) (hl : 0 ≤ j.toInt ∧ j.toInt < (150 : Nat)) (e : h2[16]? = h1[16]?) (hf : fO h2 15 1 = fO h 15 1 + 1) (hn : xs.length = 150) : NA h2 := by
  intro i hi
  rw [arR_of (e.trans c)]
  by_cases q : i = j.toInt.toNat
  · subst q
    exact ⟨v, List.getElem?_set_self (by omega)⟩
  · obtain ⟨z, hz⟩ := hN i (by omega)
    rw [arR_of pf] at hz
    exact ⟨z, by rw [List.getElem?_set_ne (fun e => q e.symm)]; exact hz⟩
theorem fO_kw {W : List Nat} {h h' : aH} {a k : Nat} (hO : OK h) (hO' : OK h') (g : un W h h') (ga : 114 ≤ a) (t : tg h a = (110, 13)) (h1 : scr 10 k = false) (h2 : 22000 + k ∉ W) : fO h' a k = fO h a k := by
  obtain ⟨fs, c1, e1, -⟩ := hO.obj t (by decide)
  obtain ⟨gs, c2, e2, -⟩ := hO'.obj (g.tm t (by decide)) (by decide)
  have e := g.fe c1 c2 k (wid_w ga) h1 h2
  unfold fO
  rw [c1, c2]
  show (match gs[k]? with
    | some (Sum.inl x) => x.toInt
    | _ => 0) = (match fs[k]? with
    | some (Sum.inl x) => x.toInt
    | _ => 0)
  rw [e]
def fl (h : aH) (a : Nat) (j : Int) : Int := (gL h a j).toInt32.toInt
theorem fl_of {h : aH} {a : Nat} {j k : Int} {y : Int64} {x : Int32} (e : k = j) (g : y = gL h a k) (q : y.toInt32 = x) : fl h a j = x.toInt := by
  unfold fl
  rw [← e, ← g, q]
variable {d : Nat} {T : aTab} {Q : Option aV → aH → Prop} {pc : Nat} {al : aL} {st : List aV} {h : aH} {kc ks n i : Nat}
theorem sd_newWord (hO : OK h) (nu ki pe re sl : Int32) (hr : (0 ≤ nu.toInt ∧ nu.toInt ≤ 149) ∧ (0 ≤ ki.toInt ∧ ki.toInt ≤ 7) ∧ (0 ≤ pe.toInt ∧ pe.toInt ≤ 8) ∧ -1 ≤ re.toInt ∧ re.toInt ≤ 19) (hQ : ∀ r h', r = none → OK h' → un [9010] h h' → (114 ≤ h.length ∧ tg h' h.length = (110, 13)) → nW h' ≤ nW h + 1 → h' = h ++ [.inl (10, [.inl nu, .inl ki, .inl pe, .inl re, .inl sl, .inl 0, .inl 0, .inl 0, .inl (-1), .inr (.inr none), .inl 0, .inl 0, .inl 0])] → Q r h') : uCall Mt (d + 1) 114 [.inr (.inr (some (h.length + 0))), .inl nu, .inl ki, .inl pe, .inl re, .inl sl] (h ++ [.inl (10, [.inl 0, .inl 0, .inl 0, .inl 0, .inl 0, .inl 0, .inl 0, .inl 0, .inl 0, .inr (.inr none), .inl 0, .inl 0, .inl 0])]) kc ks Q := by
  have hl := hO.len
  have a3 : tg (h ++ [.inl (10, [.inl nu, .inl ki, .inl pe, .inl re, .inl sl, .inl 0, .inl 0, .inl 0, .inl (-1), .inr (.inr none), .inl 0, .inl 0, .inl 0])]) h.length = (110, 13) := (ap_tg (h := h) (L := [.inl (10, [.inl nu, .inl ki, .inl pe, .inl re, .inl sl, .inl 0, .inl 0, .inl 0, .inl (-1), .inr (.inr none), .inl 0, .inl 0, .inl 0])]) (j := 0) rfl).trans rfl
  have a1 : OK (h ++ [.inl (10, [.inl nu, .inl ki, .inl pe, .inl re, .inl sl, .inl 0, .inl 0, .inl 0, .inl (-1), .inr (.inr none), .inl 0, .inl 0, .inl 0])]) := hO.appL (fun j c hc => by
    match j, hc with
    | 0, hc =>
      cases hc
      exact ⟨by omega, _, _, _, _, _, _, _, _, _, none, _, _, _, rfl, (fun z q => nomatch q), by omega⟩
    | j + 1, hc => cases hc)
  have a2 : un [9010] h (h ++ [.inl (10, [.inl nu, .inl ki, .inl pe, .inl re, .inl sl, .inl 0, .inl 0, .inl 0, .inl (-1), .inr (.inr none), .inl 0, .inl 0, .inl 0])]) := un.appL (by show (1 : Int) ≤ 4 * 0 + 0 + 1; omega) (by show (13 : Int) ≤ 385 * 0 + 8712 * 0 + 13 * 1; omega) (Or.inr rfl) (Or.inl (by decide))
  refine uc_ink [some (.inr (.inr (some (h.length + 0)))), some (.inl nu), some (.inl ki), some (.inl pe), some (.inl re), some (.inl sl)] mt_114 (Nat.le_of_ble_eq_true rfl) rfl ?_
  refine ur_ldA rfl rfl ?_
  refine ur_obj rfl (Nat.le_of_ble_eq_true rfl) ?_
  refine ur_ldA rfl rfl ?_
  refine ur_push rfl ?_
  refine ur_putA (i0 := 0) (L' := [.inl (10, [.inl 0, .inl 0, .inl 0, .inl 0, .inl 0, .inl 0, .inl 0, .inl 0, .inl 0, .inr (.inr none), .inl 0, .inl 0, .inl 0])]) rfl rfl (Nat.le_of_ble_eq_true rfl) rfl rfl ?_
  refine ur_ldA rfl rfl ?_
  refine ur_push rfl ?_
  refine ur_putA (i0 := 0) (L' := [.inl (10, [.inl 0, .inl 0, .inl 0, .inl 0, .inl 0, .inl 0, .inl 0, .inl 0, .inl 0, .inr (.inr none), .inl 0, .inl 0, .inl 0])]) rfl rfl (Nat.le_of_ble_eq_true rfl) rfl rfl ?_
  refine ur_ldA rfl rfl ?_
  refine ur_push rfl ?_
  refine ur_putA (i0 := 0) (L' := [.inl (10, [.inl 0, .inl 0, .inl 0, .inl 0, .inl 0, .inl 0, .inl 0, .inl 0, .inl 0, .inr (.inr none), .inl 0, .inl 0, .inl 0])]) rfl rfl (Nat.le_of_ble_eq_true rfl) rfl rfl ?_
  refine ur_ldA rfl rfl ?_
  refine ur_push rfl ?_
  refine ur_putA (i0 := 0) (L' := [.inl (10, [.inl 0, .inl 0, .inl 0, .inl 0, .inl 0, .inl 0, .inl 0, .inl 0, .inl (-1), .inr (.inr none), .inl 0, .inl 0, .inl 0])]) rfl rfl (Nat.le_of_ble_eq_true rfl) rfl rfl ?_
  refine ur_ldA rfl rfl ?_
  refine ur_push rfl ?_
  refine ur_putA (i0 := 0) (L' := [.inl (10, [.inl 0, .inl 0, .inl 0, .inl 0, .inl 0, .inl 0, .inl 0, .inl 0, .inl (-1), .inr (.inr none), .inl 0, .inl 0, .inl 0])]) rfl rfl (Nat.le_of_ble_eq_true rfl) rfl rfl ?_
  refine ur_ldA rfl rfl ?_
  refine ur_push rfl ?_
  refine ur_putA (i0 := 0) (L' := [.inl (10, [.inl 0, .inl 0, .inl 0, .inl 0, .inl 0, .inl 0, .inl 0, .inl 0, .inl (-1), .inr (.inr none), .inl 0, .inl 0, .inl 0])]) rfl rfl (Nat.le_of_ble_eq_true rfl) rfl rfl ?_
  refine ur_ldA rfl rfl ?_
  refine ur_push rfl ?_
  refine ur_putA (i0 := 0) (L' := [.inl (10, [.inl 0, .inl 0, .inl 0, .inl 0, .inl 0, .inl 0, .inl 0, .inl 0, .inl (-1), .inr (.inr none), .inl 0, .inl 0, .inl 0])]) rfl rfl (Nat.le_of_ble_eq_true rfl) rfl rfl ?_
  refine ur_ldA rfl rfl ?_
  refine ur_push rfl ?_
  refine ur_putA (i0 := 0) (L' := [.inl (10, [.inl 0, .inl 0, .inl 0, .inl 0, .inl 0, .inl 0, .inl 0, .inl 0, .inl (-1), .inr (.inr none), .inl 0, .inl 0, .inl 0])]) rfl rfl (Nat.le_of_ble_eq_true rfl) rfl rfl ?_
  refine ur_ldA rfl rfl ?_
  refine ur_ldI rfl rfl ?_
  refine ur_putA (i0 := 0) (L' := [.inl (10, [.inl nu, .inl 0, .inl 0, .inl 0, .inl 0, .inl 0, .inl 0, .inl 0, .inl (-1), .inr (.inr none), .inl 0, .inl 0, .inl 0])]) rfl rfl (Nat.le_of_ble_eq_true rfl) rfl rfl ?_
  refine ur_ldA rfl rfl ?_
  refine ur_ldI rfl rfl ?_
  refine ur_putA (i0 := 0) (L' := [.inl (10, [.inl nu, .inl ki, .inl 0, .inl 0, .inl 0, .inl 0, .inl 0, .inl 0, .inl (-1), .inr (.inr none), .inl 0, .inl 0, .inl 0])]) rfl rfl (Nat.le_of_ble_eq_true rfl) rfl rfl ?_
  refine ur_ldA rfl rfl ?_
  refine ur_ldI rfl rfl ?_
  refine ur_putA (i0 := 0) (L' := [.inl (10, [.inl nu, .inl ki, .inl pe, .inl 0, .inl 0, .inl 0, .inl 0, .inl 0, .inl (-1), .inr (.inr none), .inl 0, .inl 0, .inl 0])]) rfl rfl (Nat.le_of_ble_eq_true rfl) rfl rfl ?_
  refine ur_ldA rfl rfl ?_
  refine ur_ldI rfl rfl ?_
  refine ur_putA (i0 := 0) (L' := [.inl (10, [.inl nu, .inl ki, .inl pe, .inl re, .inl 0, .inl 0, .inl 0, .inl 0, .inl (-1), .inr (.inr none), .inl 0, .inl 0, .inl 0])]) rfl rfl (Nat.le_of_ble_eq_true rfl) rfl rfl ?_
  refine ur_ldA rfl rfl ?_
  refine ur_ldI rfl rfl ?_
  refine ur_putA (i0 := 0) (L' := [.inl (10, [.inl nu, .inl ki, .inl pe, .inl re, .inl sl, .inl 0, .inl 0, .inl 0, .inl (-1), .inr (.inr none), .inl 0, .inl 0, .inl 0])]) rfl rfl (Nat.le_of_ble_eq_true rfl) rfl rfl ?_
  exact ur_ret0 rfl (hQ _ _ rfl a1 a2 ⟨hO.len, a3⟩ (nW_app1 rfl) (by rfl))
set_option maxRecDepth 20000 in
set_option maxHeartbeats 4000000 in
theorem sd_X1_isToldReign {d kc ks : Nat} {h0 : aH} {Q : Option aV → aH → Prop} (hO0 : OK h0) (a1 : Int32) (hQ : ∀ r, (∃ q, r = some (.inl (bi q)) ∧ (q = true → ((0 ≤ a1.toInt ∧ a1.toInt ≤ 19) ∧ gI h0 17 a1.toInt ≠ -1)) ∧ (q = false → ¬ ((0 ≤ a1.toInt ∧ a1.toInt ≤ 19) ∧ gI h0 17 a1.toInt ≠ -1))) → Q r h0) : uCall Mt (d + 2) 9 [(.inr (.inr (some 15))), (.inl a1)] h0 kc ks Q := by
  have l_m1 : ((-1) : Int32).toInt = -1 := by decide
  have l_0 : ((0) : Int32).toInt = 0 := by decide
  have l_1 : ((1) : Int32).toInt = 1 := by decide
  have l_19 : ((19) : Int32).toInt = 19 := by decide
  refine uc_ink [some (.inr (.inr (some 15))), some (.inl a1)] mt_9 (Nat.le_of_ble_eq_true rfl) rfl ?_
  refine ur_ldI rfl rfl ?_
  refine ur_push rfl ?_
  refine ur_push rfl ?_
  refine ur_callv rfl rfl (Nat.le_of_ble_eq_true rfl) (Nat.le_of_ble_eq_true rfl) rfl (sp_within _ _ _ _ _) ?_
  refine ur_eqB rfl (fun c3 => ?_) (fun c3 => ?_)
  · have t4 := wi_noL c3 l_0 l_19
    refine ur_push rfl ?_
    exact ur_ret rfl rfl (hQ _ ⟨false, rfl, fun e => absurd e (by decide), fun _ => by omega⟩ )
  · have t5 := wi_toL c3 l_0 l_19
    refine ur_ldA rfl rfl ?_
    obtain ⟨f7, f8, f9, f10, hc6, k11⟩ := ok_15 hO0
    refine ur_get rfl hc6 rfl ?_
    refine ur_ldI rfl rfl ?_
    obtain ⟨xs13, hc12, hn14, he15⟩ := hO0.int (hO0.fix 17 (by decide) rfl)
    refine ur_aldV rfl hc12 hn14 (by omega) (fun x16 hx17 => ?_)
    have t18 := gI_of (j := a1) hc12 hx17
    refine ur_push rfl ?_
    refine ur_if2 rfl (fun c19 => ?_) (fun c19 => ?_)
    · have t20 := eq_to c19
      refine ur_push rfl ?_
      exact ur_ret rfl rfl (hQ _ ⟨false, rfl, fun e => absurd e (by decide), fun _ => by omega⟩ )
    · have t21 := eq_no c19
      refine ur_push rfl ?_
      refine ur_go rfl ?_
      exact ur_ret rfl rfl (hQ _ ⟨true, rfl, fun _ => by omega, fun e => absurd e (by decide)⟩ )

set_option maxRecDepth 20000 in
set_option maxHeartbeats 4000000 in
theorem sd_X1_canBear {d kc ks : Nat} {h0 : aH} {Q : Option aV → aH → Prop} (hO0 : OK h0) (a1 : Int32) (a2 : Int32) (pre0 : NA h0) (hQ : ∀ r, (∃ q, r = some (.inl (bi q)) ∧ (q = true → ((a1.toInt = 1 ∨ a1.toInt = 6 → 0 ≤ a2.toInt ∧ a2.toInt ≤ 23) ∧ (a1.toInt = 2 ∨ a1.toInt = 7 → 0 ≤ a2.toInt ∧ a2.toInt ≤ 1) ∧ (a1.toInt = 3 → 0 ≤ a2.toInt ∧ a2.toInt < fO h0 15 1))) ∧ (q = false → ¬ ((a1.toInt = 1 ∨ a1.toInt = 6 → 0 ≤ a2.toInt ∧ a2.toInt ≤ 23) ∧ (a1.toInt = 2 ∨ a1.toInt = 7 → 0 ≤ a2.toInt ∧ a2.toInt ≤ 1) ∧ (a1.toInt = 3 → 0 ≤ a2.toInt ∧ a2.toInt < fO h0 15 1)))) → Q r h0) : uCall Mt (d + 2) 10 [(.inr (.inr (some 15))), (.inl a1), (.inl a2)] h0 kc ks Q := by
  have l_0 : ((0) : Int32).toInt = 0 := by decide
  have l_1 : ((1) : Int32).toInt = 1 := by decide
  have l_23 : ((23) : Int32).toInt = 23 := by decide
  refine uc_ink [some (.inr (.inr (some 15))), some (.inl a1), some (.inl a2)] mt_10 (Nat.le_of_ble_eq_true rfl) rfl ?_
  obtain ⟨f2, f3, f4, f5, hc1, k6⟩ := ok_15 hO0
  have t7 := fO_of (k := 1) hc1 rfl
  refine ur_ldI rfl rfl ?_
  rcases (show (a1.toInt < 1 ∨ 7 < a1.toInt) ∨ a1.toInt = 1 ∨ a1.toInt = 2 ∨ a1.toInt = 3 ∨ a1.toInt = 4 ∨ a1.toInt = 5 ∨ a1.toInt = 6 ∨ a1.toInt = 7 by omega) with t8 | t8 | t8 | t8 | t8 | t8 | t8 | t8
  · refine ur_tabO rfl (by show a1.toInt < 1 ∨ 1 + 7 ≤ a1.toInt; omega) ?_
    refine ur_push rfl ?_
    exact ur_ret rfl rfl (hQ _ ⟨true, rfl, fun _ => by omega, fun e => absurd e (by decide)⟩ )
  · refine ur_tabI rfl (by omega) (by rw [t8]; rfl) ?_
    refine ur_ldI rfl rfl ?_
    refine ur_push rfl ?_
    refine ur_push rfl ?_
    refine ur_callv rfl rfl (Nat.le_of_ble_eq_true rfl) (Nat.le_of_ble_eq_true rfl) rfl (sp_within _ _ _ _ _) ?_
    exact ur_ret rfl (bi_ret _) (hQ _ ⟨_, rfl, fun w => by have w := wi_to w; omega, fun w => by have w := wi_no w; omega⟩ )
  · refine ur_tabI rfl (by omega) (by rw [t8]; rfl) ?_
    refine ur_ldI rfl rfl ?_
    refine ur_push rfl ?_
    refine ur_push rfl ?_
    refine ur_callv rfl rfl (Nat.le_of_ble_eq_true rfl) (Nat.le_of_ble_eq_true rfl) rfl (sp_within _ _ _ _ _) ?_
    exact ur_ret rfl (bi_ret _) (hQ _ ⟨_, rfl, fun w => by have w := wi_to w; omega, fun w => by have w := wi_no w; omega⟩ )
  · refine ur_tabI rfl (by omega) (by rw [t8]; rfl) ?_
    refine ur_ldA rfl rfl ?_
    refine ur_ldI rfl rfl ?_
    refine ur_inl rfl (rcv_of hc1) (Nat.le_of_ble_eq_true rfl) (Nat.le_of_ble_eq_true rfl) (sd_X1_wordAt hO0 _ pre0 (fun w13 hr14 => ?_))
    obtain ⟨o15, rfl, k16, t17, t18⟩ := hr14
    show uRun _ (uCall Mt _) _ 64 (_, [(.inr (.inr o15))], _, _, _)
    cases o15 with
    | none =>
      refine ur_nulN rfl ?_
      have t20 := t17 rfl
      refine ur_push rfl ?_
      exact ur_ret rfl rfl (hQ _ ⟨false, rfl, fun e => absurd e (by decide), fun _ => by omega⟩ )
    | some r19 =>
      refine ur_nulS rfl ?_
      have k21 := k16 _ rfl
      have t22 := t18 _ rfl
      refine ur_push rfl ?_
      refine ur_go rfl ?_
      exact ur_ret rfl rfl (hQ _ ⟨true, rfl, fun _ => by omega, fun e => absurd e (by decide)⟩ )
  · refine ur_tabI rfl (by omega) (by rw [t8]; rfl) ?_
    refine ur_push rfl ?_
    exact ur_ret rfl rfl (hQ _ ⟨true, rfl, fun _ => by omega, fun e => absurd e (by decide)⟩ )
  · refine ur_tabI rfl (by omega) (by rw [t8]; rfl) ?_
    refine ur_push rfl ?_
    exact ur_ret rfl rfl (hQ _ ⟨true, rfl, fun _ => by omega, fun e => absurd e (by decide)⟩ )
  · refine ur_tabI rfl (by omega) (by rw [t8]; rfl) ?_
    refine ur_ldI rfl rfl ?_
    refine ur_push rfl ?_
    refine ur_push rfl ?_
    refine ur_callv rfl rfl (Nat.le_of_ble_eq_true rfl) (Nat.le_of_ble_eq_true rfl) rfl (sp_within _ _ _ _ _) ?_
    exact ur_ret rfl (bi_ret _) (hQ _ ⟨_, rfl, fun w => by have w := wi_to w; omega, fun w => by have w := wi_no w; omega⟩ )
  · refine ur_tabI rfl (by omega) (by rw [t8]; rfl) ?_
    refine ur_ldI rfl rfl ?_
    refine ur_push rfl ?_
    refine ur_push rfl ?_
    refine ur_callv rfl rfl (Nat.le_of_ble_eq_true rfl) (Nat.le_of_ble_eq_true rfl) rfl (sp_within _ _ _ _ _) ?_
    exact ur_ret rfl (bi_ret _) (hQ _ ⟨_, rfl, fun w => by have w := wi_to w; omega, fun w => by have w := wi_no w; omega⟩ )

set_option maxRecDepth 20000 in
set_option maxHeartbeats 4000000 in
theorem sd_X1_addWord {d kc ks : Nat} {h0 : aH} {Q : Option aV → aH → Prop} (hO0 : OK h0) {a1 : Nat} (g1 : 114 ≤ a1) (t1 : tg h0 a1 = (110, 13)) (a2 : Int32) (pre0 : NA h0) (pre1 : fO h0 15 1 ≤ 149) (pre2 : fO h0 a1 1 = 3 → 0 ≤ a2.toInt ∧ a2.toInt < fO h0 15 1) (hQ : ∀ r h', (∃ x : Int32, r = some (.inl x) ∧ (x.toInt = fO h0 15 1 ∧ fO h' 15 1 = fO h0 15 1 + 1)) → OK h' → un [16, 2501, 22008, 22009, 22010, 22011, 22012] h0 h' → (nW h' ≤ nW h0 + 0) → (NA h') → Q r h') : uCall Mt (d + 6) 11 [(.inr (.inr (some 15))), (.inr (.inr (some a1))), (.inl a2)] h0 kc ks Q := by
  have l_0 : ((0) : Int32).toInt = 0 := by decide
  have l_1 : ((1) : Int32).toInt = 1 := by decide
  have l_3 : ((3) : Int32).toInt = 3 := by decide
  have l_4 : ((4) : Int32).toInt = 4 := by decide
  have l_5 : ((5) : Int32).toInt = 5 := by decide
  have l_150 : ((150) : Int32).toInt = 150 := by decide
  refine uc_ink [some (.inr (.inr (some 15))), some (.inr (.inr (some a1))), some (.inl a2), none] mt_11 (Nat.le_of_ble_eq_true rfl) rfl ?_
  obtain ⟨f2, f3, f4, f5, hc1, k6⟩ := ok_15 hO0
  have t7 := fO_of (k := 1) hc1 rfl
  obtain ⟨g24, f9, f10, f11, f12, f13, f14, f15, f16, f17, o21, f18, f19, f20, hc8, k22, k23⟩ := hO0.word t1
  have t25 := fO_of (k := 1) hc8 rfl
  refine ur_ldA rfl rfl ?_
  refine ur_get rfl hc1 rfl ?_
  refine ur_push rfl ?_
  refine ur_if2 rfl (fun c26 => ?_) (fun c26 => ?_)
  · have t27 := lt_to c26
    refine ur_ldA rfl rfl ?_
    refine ur_get rfl hc8 rfl ?_
    refine ur_if1 rfl (fun c28 => ?_) (fun c28 => ?_)
    · have t29 := eq_to c28
      refine ur_ldA rfl rfl ?_
      refine ur_get rfl hc8 rfl ?_
      refine ur_push rfl ?_
      refine ur_if2 rfl (fun c30 => ?_) (fun c30 => ?_)
      · have t31 := ne_to c30
        refine ur_ldA rfl rfl ?_
        refine ur_get rfl hc1 rfl ?_
        refine ur_ldA rfl rfl ?_
        refine ur_get rfl hc1 rfl ?_
        refine ur_ldA rfl rfl ?_
        obtain ⟨xs33, hc32, hn34, he35⟩ := hO0.wor (hO0.fix 16 (by decide) rfl)
        refine ur_astAV (W := [16]) (m := 150) rfl hO0 hc32 hc8 (Or.inr ⟨rfl, g24, t1⟩) hn34 (by omega) (Or.inr (Or.inr (wid_fix (by decide) (by decide)))) (fun h38 hO38 hv38 d36 hc37 => ?_)
        have hu38 : un [16, 2501, 22008, 22009, 22010, 22011, 22012] h0 h38 := hv38.mono (by decide)
        refine ur_ldA rfl rfl ?_
        refine ur_dup rfl rfl ?_
        refine ur_get rfl ((d36 _ (by decide)).trans hc1) rfl ?_
        have t39 := fO_of (k := 1) ((d36 _ (by decide)).trans hc1) rfl
        refine ur_push rfl ?_
        refine ur_binV rfl (fun x40 e41 => ?_)
        have z42 := any_r f2
        have t43 := ti_add e41 (by omega) (by omega)
        refine ur_putV (W := [2501]) (fs' := [(.inr (.inr (some 16))), (.inl x40), (.inl f3), (.inl f4), (.inl f5), (.inr (.inr (some 17))), (.inr (.inr (some 18))), (.inr (.inr (some 19))), (.inr (.inr (some 20))), (.inr (.inr (some 21))), (.inr (.inr (some 22)))]) rfl hO38 ((d36 _ (by decide)).trans hc1) (Nat.le_of_ble_eq_true rfl) rfl rfl ⟨rfl, _, _, _, _, rfl, by omega⟩ rfl (Or.inr (by show 1000 + 100 * wid 15 (101, 11) + 1 ∈ _; rw [(wid_f (by decide))]; decide)) (fun h45 hO45 hv45 d44 hc46 => ?_)
        have hu45 : un [16, 2501, 22008, 22009, 22010, 22011, 22012] h38 h45 := hv45.mono (by decide)
        refine ur_ldA rfl rfl ?_
        refine ur_ldA rfl rfl ?_
        have t47 := fO_keep (a := 15) (ci := 1) (n := 11) (k := 1) hO0 hO38 hv38 (by decide) rfl (by decide) rfl (by decide)
        refine ur_inl rfl (rcv_of hc46) (Nat.le_of_ble_eq_true rfl) (Nat.le_of_ble_eq_true rfl) (sf_X1_settleSpans hO45 g24 (hu45.tm (hu38.tm t1 (by decide)) (by decide)) (fun w48 h50 hr49 hO50 hv50 => ?_))
        have hu50 : un [16, 2501, 22008, 22009, 22010, 22011, 22012] h45 h50 := hv50.mono (by decide)
        subst hr49
        show uRun _ (uCall Mt _) _ 94 (_, [], _, _, _)
        have t51 := fO_of (k := 1) (hv50.ko (n := 11) hc46 rfl (wid_f (by decide)) (by decide)) rfl
        obtain ⟨g68, f53, f54, f55, f56, f57, f58, f59, f60, f61, o65, f62, f63, f64, hc52, k66, k67⟩ := hO50.word (hu50.tm (hu45.tm (hu38.tm t1 (by decide)) (by decide)) (by decide))
        have t69 := fO_of (k := 1) hc52 rfl
        refine ur_ldA rfl rfl ?_
        refine ur_get rfl (hv50.ko (n := 11) hc46 rfl (wid_f (by decide)) (by decide)) rfl ?_
        refine ur_push rfl ?_
        refine ur_binV rfl (fun x70 e71 => ?_)
        have z72 := any_r x40
        have t73 := ti_sub e71 (by omega) (by omega)
        have t74 := fO_keep (a := 15) (ci := 1) (n := 11) (k := 1) hO45 hO50 hv50 (by decide) rfl (by decide) rfl (by decide)
        have t75 := hv38.nW (by decide)
        have t76 := hv45.nW (by decide)
        have t77 := hv50.nW (by decide)
        have n78 := NA_push pre0 hc32 hc37 (by omega) (by omega) (d44 16 (by decide)) (show fO h45 15 1 = fO h0 15 1 + 1 by omega) hn34
        exact ur_ret rfl rfl (hQ _ _ ⟨_, rfl, by omega⟩ hO50 (hu38.tr (hu45.tr hu50)) (by omega) (n78.un hO45 hO50 hv50 (by decide) (by decide)))
      · have t79 := ne_no c30
        exfalso
        omega
    · have t80 := eq_no c28
      refine ur_ldA rfl rfl ?_
      refine ur_get rfl hc8 rfl ?_
      refine ur_push rfl ?_
      refine ur_if2 rfl (fun c81 => ?_) (fun c81 => ?_)
      · have t82 := eq_to c81
        refine ur_ldA rfl rfl ?_
        refine ur_get rfl hc8 rfl ?_
        refine ur_push rfl ?_
        refine ur_if2 rfl (fun c83 => ?_) (fun c83 => ?_)
        · have t84 := ne_to c83
          refine ur_ldA rfl rfl ?_
          refine ur_get rfl hc1 rfl ?_
          refine ur_ldA rfl rfl ?_
          refine ur_get rfl hc1 rfl ?_
          refine ur_ldA rfl rfl ?_
          obtain ⟨xs86, hc85, hn87, he88⟩ := hO0.wor (hO0.fix 16 (by decide) rfl)
          refine ur_astAV (W := [16]) (m := 150) rfl hO0 hc85 hc8 (Or.inr ⟨rfl, g24, t1⟩) hn87 (by omega) (Or.inr (Or.inr (wid_fix (by decide) (by decide)))) (fun h91 hO91 hv91 d89 hc90 => ?_)
          have hu91 : un [16, 2501, 22008, 22009, 22010, 22011, 22012] h0 h91 := hv91.mono (by decide)
          refine ur_ldA rfl rfl ?_
          refine ur_dup rfl rfl ?_
          refine ur_get rfl ((d89 _ (by decide)).trans hc1) rfl ?_
          have t92 := fO_of (k := 1) ((d89 _ (by decide)).trans hc1) rfl
          refine ur_push rfl ?_
          refine ur_binV rfl (fun x93 e94 => ?_)
          have z95 := any_r f2
          have t96 := ti_add e94 (by omega) (by omega)
          refine ur_putV (W := [2501]) (fs' := [(.inr (.inr (some 16))), (.inl x93), (.inl f3), (.inl f4), (.inl f5), (.inr (.inr (some 17))), (.inr (.inr (some 18))), (.inr (.inr (some 19))), (.inr (.inr (some 20))), (.inr (.inr (some 21))), (.inr (.inr (some 22)))]) rfl hO91 ((d89 _ (by decide)).trans hc1) (Nat.le_of_ble_eq_true rfl) rfl rfl ⟨rfl, _, _, _, _, rfl, by omega⟩ rfl (Or.inr (by show 1000 + 100 * wid 15 (101, 11) + 1 ∈ _; rw [(wid_f (by decide))]; decide)) (fun h98 hO98 hv98 d97 hc99 => ?_)
          have hu98 : un [16, 2501, 22008, 22009, 22010, 22011, 22012] h91 h98 := hv98.mono (by decide)
          refine ur_ldA rfl rfl ?_
          refine ur_ldA rfl rfl ?_
          have t100 := fO_keep (a := 15) (ci := 1) (n := 11) (k := 1) hO0 hO91 hv91 (by decide) rfl (by decide) rfl (by decide)
          refine ur_inl rfl (rcv_of hc99) (Nat.le_of_ble_eq_true rfl) (Nat.le_of_ble_eq_true rfl) (sf_X1_settleSpans hO98 g24 (hu98.tm (hu91.tm t1 (by decide)) (by decide)) (fun w101 h103 hr102 hO103 hv103 => ?_))
          have hu103 : un [16, 2501, 22008, 22009, 22010, 22011, 22012] h98 h103 := hv103.mono (by decide)
          subst hr102
          show uRun _ (uCall Mt _) _ 94 (_, [], _, _, _)
          have t104 := fO_of (k := 1) (hv103.ko (n := 11) hc99 rfl (wid_f (by decide)) (by decide)) rfl
          obtain ⟨g121, f106, f107, f108, f109, f110, f111, f112, f113, f114, o118, f115, f116, f117, hc105, k119, k120⟩ := hO103.word (hu103.tm (hu98.tm (hu91.tm t1 (by decide)) (by decide)) (by decide))
          have t122 := fO_of (k := 1) hc105 rfl
          refine ur_ldA rfl rfl ?_
          refine ur_get rfl (hv103.ko (n := 11) hc99 rfl (wid_f (by decide)) (by decide)) rfl ?_
          refine ur_push rfl ?_
          refine ur_binV rfl (fun x123 e124 => ?_)
          have z125 := any_r x93
          have t126 := ti_sub e124 (by omega) (by omega)
          have t127 := fO_keep (a := 15) (ci := 1) (n := 11) (k := 1) hO98 hO103 hv103 (by decide) rfl (by decide) rfl (by decide)
          have t128 := hv91.nW (by decide)
          have t129 := hv98.nW (by decide)
          have t130 := hv103.nW (by decide)
          have n131 := NA_push pre0 hc85 hc90 (by omega) (by omega) (d97 16 (by decide)) (show fO h98 15 1 = fO h0 15 1 + 1 by omega) hn87
          exact ur_ret rfl rfl (hQ _ _ ⟨_, rfl, by omega⟩ hO103 (hu91.tr (hu98.tr hu103)) (by omega) (n131.un hO98 hO103 hv103 (by decide) (by decide)))
        · have t132 := ne_no c83
          exfalso
          omega
      · have t133 := eq_no c81
        refine ur_ldA rfl rfl ?_
        refine ur_get rfl hc8 rfl ?_
        refine ur_push rfl ?_
        refine ur_if2 rfl (fun c134 => ?_) (fun c134 => ?_)
        · have t135 := eq_to c134
          refine ur_ldA rfl rfl ?_
          refine ur_get rfl hc8 rfl ?_
          refine ur_push rfl ?_
          refine ur_if2 rfl (fun c136 => ?_) (fun c136 => ?_)
          · have t137 := ne_to c136
            refine ur_ldA rfl rfl ?_
            refine ur_get rfl hc1 rfl ?_
            refine ur_ldA rfl rfl ?_
            refine ur_get rfl hc1 rfl ?_
            refine ur_ldA rfl rfl ?_
            obtain ⟨xs139, hc138, hn140, he141⟩ := hO0.wor (hO0.fix 16 (by decide) rfl)
            refine ur_astAV (W := [16]) (m := 150) rfl hO0 hc138 hc8 (Or.inr ⟨rfl, g24, t1⟩) hn140 (by omega) (Or.inr (Or.inr (wid_fix (by decide) (by decide)))) (fun h144 hO144 hv144 d142 hc143 => ?_)
            have hu144 : un [16, 2501, 22008, 22009, 22010, 22011, 22012] h0 h144 := hv144.mono (by decide)
            refine ur_ldA rfl rfl ?_
            refine ur_dup rfl rfl ?_
            refine ur_get rfl ((d142 _ (by decide)).trans hc1) rfl ?_
            have t145 := fO_of (k := 1) ((d142 _ (by decide)).trans hc1) rfl
            refine ur_push rfl ?_
            refine ur_binV rfl (fun x146 e147 => ?_)
            have z148 := any_r f2
            have t149 := ti_add e147 (by omega) (by omega)
            refine ur_putV (W := [2501]) (fs' := [(.inr (.inr (some 16))), (.inl x146), (.inl f3), (.inl f4), (.inl f5), (.inr (.inr (some 17))), (.inr (.inr (some 18))), (.inr (.inr (some 19))), (.inr (.inr (some 20))), (.inr (.inr (some 21))), (.inr (.inr (some 22)))]) rfl hO144 ((d142 _ (by decide)).trans hc1) (Nat.le_of_ble_eq_true rfl) rfl rfl ⟨rfl, _, _, _, _, rfl, by omega⟩ rfl (Or.inr (by show 1000 + 100 * wid 15 (101, 11) + 1 ∈ _; rw [(wid_f (by decide))]; decide)) (fun h151 hO151 hv151 d150 hc152 => ?_)
            have hu151 : un [16, 2501, 22008, 22009, 22010, 22011, 22012] h144 h151 := hv151.mono (by decide)
            refine ur_ldA rfl rfl ?_
            refine ur_ldA rfl rfl ?_
            have t153 := fO_keep (a := 15) (ci := 1) (n := 11) (k := 1) hO0 hO144 hv144 (by decide) rfl (by decide) rfl (by decide)
            refine ur_inl rfl (rcv_of hc152) (Nat.le_of_ble_eq_true rfl) (Nat.le_of_ble_eq_true rfl) (sf_X1_settleSpans hO151 g24 (hu151.tm (hu144.tm t1 (by decide)) (by decide)) (fun w154 h156 hr155 hO156 hv156 => ?_))
            have hu156 : un [16, 2501, 22008, 22009, 22010, 22011, 22012] h151 h156 := hv156.mono (by decide)
            subst hr155
            show uRun _ (uCall Mt _) _ 94 (_, [], _, _, _)
            have t157 := fO_of (k := 1) (hv156.ko (n := 11) hc152 rfl (wid_f (by decide)) (by decide)) rfl
            obtain ⟨g174, f159, f160, f161, f162, f163, f164, f165, f166, f167, o171, f168, f169, f170, hc158, k172, k173⟩ := hO156.word (hu156.tm (hu151.tm (hu144.tm t1 (by decide)) (by decide)) (by decide))
            have t175 := fO_of (k := 1) hc158 rfl
            refine ur_ldA rfl rfl ?_
            refine ur_get rfl (hv156.ko (n := 11) hc152 rfl (wid_f (by decide)) (by decide)) rfl ?_
            refine ur_push rfl ?_
            refine ur_binV rfl (fun x176 e177 => ?_)
            have z178 := any_r x146
            have t179 := ti_sub e177 (by omega) (by omega)
            have t180 := fO_keep (a := 15) (ci := 1) (n := 11) (k := 1) hO151 hO156 hv156 (by decide) rfl (by decide) rfl (by decide)
            have t181 := hv144.nW (by decide)
            have t182 := hv151.nW (by decide)
            have t183 := hv156.nW (by decide)
            have n184 := NA_push pre0 hc138 hc143 (by omega) (by omega) (d150 16 (by decide)) (show fO h151 15 1 = fO h0 15 1 + 1 by omega) hn140
            exact ur_ret rfl rfl (hQ _ _ ⟨_, rfl, by omega⟩ hO156 (hu144.tr (hu151.tr hu156)) (by omega) (n184.un hO151 hO156 hv156 (by decide) (by decide)))
          · have t185 := ne_no c136
            exfalso
            omega
        · have t186 := eq_no c134
          refine ur_ldA rfl rfl ?_
          refine ur_ldI rfl rfl ?_
          refine ur_putV (W := [22008]) (fs' := [(.inl f9), (.inl f10), (.inl f11), (.inl f12), (.inl f13), (.inl f14), (.inl f15), (.inl f16), (.inl a2), (.inr (.inr o21)), (.inl f18), (.inl f19), (.inl f20)]) rfl hO0 hc8 (Nat.le_of_ble_eq_true rfl) rfl rfl ⟨g24, _, _, _, _, _, _, _, _, _, _, _, _, _, rfl, k22, by omega⟩ rfl (Or.inr (by show 1000 + 100 * wid a1 (110, 13) + 8 ∈ _; rw [(wid_w g24)]; decide)) (fun h188 hO188 hv188 d187 hc189 => ?_)
          have hu188 : un [16, 2501, 22008, 22009, 22010, 22011, 22012] h0 h188 := hv188.mono (by decide)
          refine ur_ldA rfl rfl ?_
          refine ur_get rfl hc189 rfl ?_
          have t190 := fO_of (k := 1) hc189 rfl
          refine ur_push rfl ?_
          refine ur_if2 rfl (fun c191 => ?_) (fun c191 => ?_)
          · have t192 := ne_to c191
            refine ur_ldA rfl rfl ?_
            refine ur_get rfl ((d187 _ (ne_tg (hO188.fix 15 (by decide) rfl) (hu188.tm t1 (by decide)) (by decide))).trans hc1) rfl ?_
            have t193 := fO_of (k := 1) ((d187 _ (ne_tg (hO188.fix 15 (by decide) rfl) (hu188.tm t1 (by decide)) (by decide))).trans hc1) rfl
            refine ur_ldA rfl rfl ?_
            refine ur_get rfl ((d187 _ (ne_tg (hO188.fix 15 (by decide) rfl) (hu188.tm t1 (by decide)) (by decide))).trans hc1) rfl ?_
            refine ur_ldA rfl rfl ?_
            obtain ⟨xs195, hc194, hn196, he197⟩ := hO188.wor (hO188.fix 16 (by decide) rfl)
            refine ur_astAV (W := [16]) (m := 150) rfl hO188 hc194 hc189 (Or.inr ⟨rfl, g24, (hu188.tm t1 (by decide))⟩) hn196 (by omega) (Or.inr (Or.inr (wid_fix (by decide) (by decide)))) (fun h200 hO200 hv200 d198 hc199 => ?_)
            have hu200 : un [16, 2501, 22008, 22009, 22010, 22011, 22012] h188 h200 := hv200.mono (by decide)
            refine ur_ldA rfl rfl ?_
            refine ur_dup rfl rfl ?_
            refine ur_get rfl ((d198 _ (by decide)).trans ((d187 _ (ne_tg (hO188.fix 15 (by decide) rfl) (hu188.tm t1 (by decide)) (by decide))).trans hc1)) rfl ?_
            have t201 := fO_of (k := 1) ((d198 _ (by decide)).trans ((d187 _ (ne_tg (hO188.fix 15 (by decide) rfl) (hu188.tm t1 (by decide)) (by decide))).trans hc1)) rfl
            refine ur_push rfl ?_
            refine ur_binV rfl (fun x202 e203 => ?_)
            have z204 := any_r f2
            have t205 := ti_add e203 (by omega) (by omega)
            refine ur_putV (W := [2501]) (fs' := [(.inr (.inr (some 16))), (.inl x202), (.inl f3), (.inl f4), (.inl f5), (.inr (.inr (some 17))), (.inr (.inr (some 18))), (.inr (.inr (some 19))), (.inr (.inr (some 20))), (.inr (.inr (some 21))), (.inr (.inr (some 22)))]) rfl hO200 ((d198 _ (by decide)).trans ((d187 _ (ne_tg (hO188.fix 15 (by decide) rfl) (hu188.tm t1 (by decide)) (by decide))).trans hc1)) (Nat.le_of_ble_eq_true rfl) rfl rfl ⟨rfl, _, _, _, _, rfl, by omega⟩ rfl (Or.inr (by show 1000 + 100 * wid 15 (101, 11) + 1 ∈ _; rw [(wid_f (by decide))]; decide)) (fun h207 hO207 hv207 d206 hc208 => ?_)
            have hu207 : un [16, 2501, 22008, 22009, 22010, 22011, 22012] h200 h207 := hv207.mono (by decide)
            refine ur_ldA rfl rfl ?_
            refine ur_ldA rfl rfl ?_
            have t209 := fO_keep (a := 15) (ci := 1) (n := 11) (k := 1) hO0 hO188 hv188 (by decide) rfl (by decide) rfl (by decide)
            have t210 := fO_keep (a := 15) (ci := 1) (n := 11) (k := 1) hO188 hO200 hv200 (by decide) rfl (by decide) rfl (by decide)
            refine ur_inl rfl (rcv_of hc208) (Nat.le_of_ble_eq_true rfl) (Nat.le_of_ble_eq_true rfl) (sf_X1_settleSpans hO207 g24 (hu207.tm (hu200.tm (hu188.tm t1 (by decide)) (by decide)) (by decide)) (fun w211 h213 hr212 hO213 hv213 => ?_))
            have hu213 : un [16, 2501, 22008, 22009, 22010, 22011, 22012] h207 h213 := hv213.mono (by decide)
            subst hr212
            show uRun _ (uCall Mt _) _ 94 (_, [], _, _, _)
            have t214 := fO_of (k := 1) (hv213.ko (n := 11) hc208 rfl (wid_f (by decide)) (by decide)) rfl
            obtain ⟨g231, f216, f217, f218, f219, f220, f221, f222, f223, f224, o228, f225, f226, f227, hc215, k229, k230⟩ := hO213.word (hu213.tm (hu207.tm (hu200.tm (hu188.tm t1 (by decide)) (by decide)) (by decide)) (by decide))
            have t232 := fO_of (k := 1) hc215 rfl
            refine ur_ldA rfl rfl ?_
            refine ur_get rfl (hv213.ko (n := 11) hc208 rfl (wid_f (by decide)) (by decide)) rfl ?_
            refine ur_push rfl ?_
            refine ur_binV rfl (fun x233 e234 => ?_)
            have z235 := any_r x202
            have t236 := ti_sub e234 (by omega) (by omega)
            have t237 := fO_keep (a := 15) (ci := 1) (n := 11) (k := 1) hO207 hO213 hv213 (by decide) rfl (by decide) rfl (by decide)
            have t238 := hv188.nW (by decide)
            have t239 := hv200.nW (by decide)
            have t240 := hv207.nW (by decide)
            have t241 := hv213.nW (by decide)
            have n242 := NA_push (pre0.un hO0 hO188 hv188 (by decide) (by decide)) hc194 hc199 (by omega) (by omega) (d206 16 (by decide)) (show fO h207 15 1 = fO h188 15 1 + 1 by omega) hn196
            exact ur_ret rfl rfl (hQ _ _ ⟨_, rfl, by omega⟩ hO213 (hu188.tr (hu200.tr (hu207.tr hu213))) (by omega) (n242.un hO207 hO213 hv213 (by decide) (by decide)))
          · have t243 := ne_no c191
            refine ur_ldA rfl rfl ?_
            refine ur_ldI rfl rfl ?_
            have t244 := fO_of (k := 1) ((d187 _ (ne_tg (hO188.fix 15 (by decide) rfl) (hu188.tm t1 (by decide)) (by decide))).trans hc1) rfl
            have t245 := fO_keep (a := 15) (ci := 1) (n := 11) (k := 1) hO0 hO188 hv188 (by decide) rfl (by decide) rfl (by decide)
            refine ur_inl rfl (rcv_of ((d187 _ (ne_tg (hO188.fix 15 (by decide) rfl) (hu188.tm t1 (by decide)) (by decide))).trans hc1)) (Nat.le_of_ble_eq_true rfl) (Nat.le_of_ble_eq_true rfl) (sd_X1_wordAt hO188 _ (pre0.un hO0 hO188 hv188 (by decide) (by decide)) (fun w246 hr247 => ?_))
            obtain ⟨o248, rfl, k249, t250, t251⟩ := hr247
            show uRun _ (uCall Mt _) _ 54 (_, [(.inr (.inr o248))], _, _, _)
            refine ur_svAk [some (.inr (.inr (some 15))), some (.inr (.inr (some a1))), some (.inl a2), some (.inr (.inr o248))] rfl rfl ?_
            refine ur_ldA rfl rfl ?_
            cases o248 with
            | none =>
              refine ur_nulN rfl ?_
              have t253 := t250 rfl
              exfalso
              omega
            | some r252 =>
              refine ur_nulS rfl ?_
              have k254 := k249 _ rfl
              have t255 := t251 _ rfl
              refine ur_ldA rfl rfl ?_
              refine ur_ldA rfl rfl ?_
              obtain ⟨g272, f257, f258, f259, f260, f261, f262, f263, f264, f265, o269, f266, f267, f268, hc256, k270, k271⟩ := hO188.word k254.2
              refine ur_inl rfl (rcv_of hc256) (Nat.le_of_ble_eq_true rfl) (Nat.le_of_ble_eq_true rfl) (sf_X10_rootWord hO188 g272 k254.2 (fun w273 hr274 => ?_))
              obtain ⟨r275, rfl, k276⟩ := hr274
              show uRun _ (uCall Mt _) _ 66 (_, [(.inr (.inr (some r275))), (.inr (.inr (some a1)))], _, _, _)
              refine ur_inl rfl (rcv_of hc189) (Nat.le_of_ble_eq_true rfl) (Nat.le_of_ble_eq_true rfl) (sf_X10_copyFrom hO188 g24 (hu188.tm t1 (by decide)) k276.1 k276.2 (fun w277 h279 hr278 hO279 hv279 => ?_))
              have hu279 : un [16, 2501, 22008, 22009, 22010, 22011, 22012] h188 h279 := hv279.mono (by decide)
              subst hr278
              show uRun _ (uCall Mt _) _ 69 (_, [], _, _, _)
              have t280 := fO_of (k := 1) (hv279.ko (n := 11) ((d187 _ (ne_tg (hO188.fix 15 (by decide) rfl) (hu188.tm t1 (by decide)) (by decide))).trans hc1) rfl (wid_f (by decide)) (by decide)) rfl
              obtain ⟨g297, f282, f283, f284, f285, f286, f287, f288, f289, f290, o294, f291, f292, f293, hc281, k295, k296⟩ := hO279.word (hu279.tm (hu188.tm t1 (by decide)) (by decide))
              have t298 := fO_of (k := 1) hc281 rfl
              refine ur_ldA rfl rfl ?_
              refine ur_get rfl (hv279.ko (n := 11) ((d187 _ (ne_tg (hO188.fix 15 (by decide) rfl) (hu188.tm t1 (by decide)) (by decide))).trans hc1) rfl (wid_f (by decide)) (by decide)) rfl ?_
              refine ur_ldA rfl rfl ?_
              refine ur_get rfl (hv279.ko (n := 11) ((d187 _ (ne_tg (hO188.fix 15 (by decide) rfl) (hu188.tm t1 (by decide)) (by decide))).trans hc1) rfl (wid_f (by decide)) (by decide)) rfl ?_
              refine ur_ldA rfl rfl ?_
              obtain ⟨xs300, hc299, hn301, he302⟩ := hO279.wor (hO279.fix 16 (by decide) rfl)
              refine ur_astAV (W := [16]) (m := 150) rfl hO279 hc299 hc281 (Or.inr ⟨rfl, g297, (hu279.tm (hu188.tm t1 (by decide)) (by decide))⟩) hn301 (by omega) (Or.inr (Or.inr (wid_fix (by decide) (by decide)))) (fun h305 hO305 hv305 d303 hc304 => ?_)
              have hu305 : un [16, 2501, 22008, 22009, 22010, 22011, 22012] h279 h305 := hv305.mono (by decide)
              refine ur_ldA rfl rfl ?_
              refine ur_dup rfl rfl ?_
              refine ur_get rfl ((d303 _ (by decide)).trans (hv279.ko (n := 11) ((d187 _ (ne_tg (hO188.fix 15 (by decide) rfl) (hu188.tm t1 (by decide)) (by decide))).trans hc1) rfl (wid_f (by decide)) (by decide))) rfl ?_
              have t306 := fO_of (k := 1) ((d303 _ (by decide)).trans (hv279.ko (n := 11) ((d187 _ (ne_tg (hO188.fix 15 (by decide) rfl) (hu188.tm t1 (by decide)) (by decide))).trans hc1) rfl (wid_f (by decide)) (by decide))) rfl
              refine ur_push rfl ?_
              refine ur_binV rfl (fun x307 e308 => ?_)
              have z309 := any_r f2
              have t310 := ti_add e308 (by omega) (by omega)
              refine ur_putV (W := [2501]) (fs' := [(.inr (.inr (some 16))), (.inl x307), (.inl f3), (.inl f4), (.inl f5), (.inr (.inr (some 17))), (.inr (.inr (some 18))), (.inr (.inr (some 19))), (.inr (.inr (some 20))), (.inr (.inr (some 21))), (.inr (.inr (some 22)))]) rfl hO305 ((d303 _ (by decide)).trans (hv279.ko (n := 11) ((d187 _ (ne_tg (hO188.fix 15 (by decide) rfl) (hu188.tm t1 (by decide)) (by decide))).trans hc1) rfl (wid_f (by decide)) (by decide))) (Nat.le_of_ble_eq_true rfl) rfl rfl ⟨rfl, _, _, _, _, rfl, by omega⟩ rfl (Or.inr (by show 1000 + 100 * wid 15 (101, 11) + 1 ∈ _; rw [(wid_f (by decide))]; decide)) (fun h312 hO312 hv312 d311 hc313 => ?_)
              have hu312 : un [16, 2501, 22008, 22009, 22010, 22011, 22012] h305 h312 := hv312.mono (by decide)
              refine ur_ldA rfl rfl ?_
              refine ur_ldA rfl rfl ?_
              have t314 := fO_keep (a := 15) (ci := 1) (n := 11) (k := 1) hO188 hO279 hv279 (by decide) rfl (by decide) rfl (by decide)
              have t315 := fO_keep (a := 15) (ci := 1) (n := 11) (k := 1) hO279 hO305 hv305 (by decide) rfl (by decide) rfl (by decide)
              refine ur_inl rfl (rcv_of hc313) (Nat.le_of_ble_eq_true rfl) (Nat.le_of_ble_eq_true rfl) (sf_X1_settleSpans hO312 g297 (hu312.tm (hu305.tm (hu279.tm (hu188.tm t1 (by decide)) (by decide)) (by decide)) (by decide)) (fun w316 h318 hr317 hO318 hv318 => ?_))
              have hu318 : un [16, 2501, 22008, 22009, 22010, 22011, 22012] h312 h318 := hv318.mono (by decide)
              subst hr317
              show uRun _ (uCall Mt _) _ 94 (_, [], _, _, _)
              have t319 := fO_of (k := 1) (hv318.ko (n := 11) hc313 rfl (wid_f (by decide)) (by decide)) rfl
              obtain ⟨g336, f321, f322, f323, f324, f325, f326, f327, f328, f329, o333, f330, f331, f332, hc320, k334, k335⟩ := hO318.word (hu318.tm (hu312.tm (hu305.tm (hu279.tm (hu188.tm t1 (by decide)) (by decide)) (by decide)) (by decide)) (by decide))
              have t337 := fO_of (k := 1) hc320 rfl
              refine ur_ldA rfl rfl ?_
              refine ur_get rfl (hv318.ko (n := 11) hc313 rfl (wid_f (by decide)) (by decide)) rfl ?_
              refine ur_push rfl ?_
              refine ur_binV rfl (fun x338 e339 => ?_)
              have z340 := any_r x307
              have t341 := ti_sub e339 (by omega) (by omega)
              have t342 := fO_keep (a := 15) (ci := 1) (n := 11) (k := 1) hO312 hO318 hv318 (by decide) rfl (by decide) rfl (by decide)
              have t343 := hv188.nW (by decide)
              have t344 := hv279.nW (by decide)
              have t345 := hv305.nW (by decide)
              have t346 := hv312.nW (by decide)
              have t347 := hv318.nW (by decide)
              have n348 := NA_push ((pre0.un hO0 hO188 hv188 (by decide) (by decide)).un hO188 hO279 hv279 (by decide) (by decide)) hc299 hc304 (by omega) (by omega) (d311 16 (by decide)) (show fO h312 15 1 = fO h279 15 1 + 1 by omega) hn301
              exact ur_ret rfl rfl (hQ _ _ ⟨_, rfl, by omega⟩ hO318 (hu188.tr (hu279.tr (hu305.tr (hu312.tr hu318)))) (by omega) (n348.un hO312 hO318 hv318 (by decide) (by decide)))
  · have t349 := lt_no c26
    exfalso
    omega

set_option maxRecDepth 20000 in
set_option maxHeartbeats 4000000 in
theorem sd_X11_word {d kc ks : Nat} {h0 : aH} {Q : Option aV → aH → Prop} (hO0 : OK h0) (a1 : Int32) (a2 : Int32) (a3 : Int32) (pre0 : NA h0) (hQ : ∀ r h', (∃ x : Int32, r = some (.inl x) ∧ (¬ ((0 ≤ a1.toInt ∧ a1.toInt / 10000 ≤ 8 ∧ a1.toInt / 100 % 100 ≤ 7 ∧ 0 ≤ a2.toInt ∧ a2.toInt ≤ 400) ∧ (a1.toInt % 100 = 99 ∨ (a1.toInt % 100 ≤ 19 ∧ gI h0 17 (a1.toInt % 100) ≠ -1)) ∧ ((a1.toInt / 100 % 100 = 1 ∨ a1.toInt / 100 % 100 = 6 → 0 ≤ a3.toInt ∧ a3.toInt ≤ 23) ∧ (a1.toInt / 100 % 100 = 2 ∨ a1.toInt / 100 % 100 = 7 → 0 ≤ a3.toInt ∧ a3.toInt ≤ 1) ∧ (a1.toInt / 100 % 100 = 3 → 0 ≤ a3.toInt ∧ a3.toInt < fO h0 15 1))) ∧ x.toInt = -1 ∧ fO h' 15 1 = fO h0 15 1 ∨ ((0 ≤ a1.toInt ∧ a1.toInt / 10000 ≤ 8 ∧ a1.toInt / 100 % 100 ≤ 7 ∧ 0 ≤ a2.toInt ∧ a2.toInt ≤ 400) ∧ (a1.toInt % 100 = 99 ∨ (a1.toInt % 100 ≤ 19 ∧ gI h0 17 (a1.toInt % 100) ≠ -1)) ∧ ((a1.toInt / 100 % 100 = 1 ∨ a1.toInt / 100 % 100 = 6 → 0 ≤ a3.toInt ∧ a3.toInt ≤ 23) ∧ (a1.toInt / 100 % 100 = 2 ∨ a1.toInt / 100 % 100 = 7 → 0 ≤ a3.toInt ∧ a3.toInt ≤ 1) ∧ (a1.toInt / 100 % 100 = 3 → 0 ≤ a3.toInt ∧ a3.toInt < fO h0 15 1))) ∧ 150 ≤ fO h0 15 1 ∧ x.toInt = -3 ∧ fO h' 15 1 = fO h0 15 1 ∨ ((0 ≤ a1.toInt ∧ a1.toInt / 10000 ≤ 8 ∧ a1.toInt / 100 % 100 ≤ 7 ∧ 0 ≤ a2.toInt ∧ a2.toInt ≤ 400) ∧ (a1.toInt % 100 = 99 ∨ (a1.toInt % 100 ≤ 19 ∧ gI h0 17 (a1.toInt % 100) ≠ -1)) ∧ ((a1.toInt / 100 % 100 = 1 ∨ a1.toInt / 100 % 100 = 6 → 0 ≤ a3.toInt ∧ a3.toInt ≤ 23) ∧ (a1.toInt / 100 % 100 = 2 ∨ a1.toInt / 100 % 100 = 7 → 0 ≤ a3.toInt ∧ a3.toInt ≤ 1) ∧ (a1.toInt / 100 % 100 = 3 → 0 ≤ a3.toInt ∧ a3.toInt < fO h0 15 1))) ∧ fO h0 15 1 < 150 ∧ x.toInt = fO h0 15 1 ∧ fO h' 15 1 = fO h0 15 1 + 1)) → OK h' → un [16, 2501, 9010, 22005, 22006, 22007, 22008, 22009, 22010, 22011, 22012] h0 h' → (nW h' ≤ nW h0 + 1) → (NA h') → Q r h') : uCall Mt (d + 7) 134 [(.inr (.inr (some 0))), (.inl a1), (.inl a2), (.inl a3)] h0 kc ks Q := by
  have l_m3 : ((-3) : Int32).toInt = -3 := by decide
  have l_m1 : ((-1) : Int32).toInt = -1 := by decide
  have l_0 : ((0) : Int32).toInt = 0 := by decide
  have l_8 : ((8) : Int32).toInt = 8 := by decide
  have l_99 : ((99) : Int32).toInt = 99 := by decide
  have l_100 : ((100) : Int32).toInt = 100 := by decide
  have l_150 : ((150) : Int32).toInt = 150 := by decide
  have l_400 : ((400) : Int32).toInt = 400 := by decide
  have l_10000 : ((10000) : Int32).toInt = 10000 := by decide
  refine uc_ink [some (.inr (.inr (some 0))), some (.inl a1), some (.inl a2), some (.inl a3), none, none, none, none] mt_134 (Nat.le_of_ble_eq_true rfl) rfl ?_
  obtain ⟨f2, f3, f4, f5, hc1, k6⟩ := ok_15 hO0
  have t7 := fO_of (k := 1) hc1 rfl
  refine ur_ldI rfl rfl ?_
  refine ur_push rfl ?_
  refine ur_divV rfl (by decide) (fun x8 e9 => ?_)
  have z10 := any_r a1
  have t11 : 0 ≤ a1.toInt → x8.toInt = a1.toInt / 10000 := fun q => ti_div e9 l_10000 (by decide) q
  refine ur_svIk [some (.inr (.inr (some 0))), some (.inl a1), some (.inl a2), some (.inl a3), some (.inl x8), none, none, none] rfl rfl ?_
  refine ur_ldI rfl rfl ?_
  refine ur_push rfl ?_
  refine ur_divV rfl (by decide) (fun x12 e13 => ?_)
  have t14 : 0 ≤ a1.toInt → x12.toInt = a1.toInt / 100 := fun q => ti_div e13 l_100 (by decide) q
  refine ur_push rfl ?_
  refine ur_divV rfl (by decide) (fun x15 e16 => ?_)
  have z17 := any_r x12
  have t18 : 0 ≤ x12.toInt → x15.toInt = x12.toInt % 100 := fun q => ti_rem e16 l_100 (by decide) q
  refine ur_svIk [some (.inr (.inr (some 0))), some (.inl a1), some (.inl a2), some (.inl a3), some (.inl x8), some (.inl x15), none, none] rfl rfl ?_
  refine ur_ldI rfl rfl ?_
  refine ur_push rfl ?_
  refine ur_divV rfl (by decide) (fun x19 e20 => ?_)
  have t21 : 0 ≤ a1.toInt → x19.toInt = a1.toInt % 100 := fun q => ti_rem e20 l_100 (by decide) q
  refine ur_svIk [some (.inr (.inr (some 0))), some (.inl a1), some (.inl a2), some (.inl a3), some (.inl x8), some (.inl x15), some (.inl x19), none] rfl rfl ?_
  refine ur_ldI rfl rfl ?_
  have t22 : 0 ≤ a1.toInt → gI h0 17 (a1.toInt % 100) = gI h0 17 x19.toInt := fun q => by rw [show a1.toInt % 100 = x19.toInt by omega]
  refine ur_if1 rfl (fun c23 => ?_) (fun c23 => ?_)
  · have t24 := lt_to c23
    refine ur_push rfl ?_
    exact ur_ret rfl rfl (hQ _ _ ⟨_, rfl, by omega⟩ hO0 un.rf (by omega) pre0)
  · have t25 := lt_no c23
    refine ur_ldI rfl rfl ?_
    refine ur_callv rfl rfl (Nat.le_of_ble_eq_true rfl) (Nat.le_of_ble_eq_true rfl) rfl (sp_isPpl _ _) ?_
    refine ur_eqB rfl (fun c28 => ?_) (fun c28 => ?_)
    · have t29 := wi_noL c28 l_0 l_8
      refine ur_push rfl ?_
      exact ur_ret rfl rfl (hQ _ _ ⟨_, rfl, by omega⟩ hO0 un.rf (by omega) pre0)
    · have t30 := wi_toL c28 l_0 l_8
      refine ur_ldI rfl rfl ?_
      refine ur_push rfl ?_
      refine ur_if2 rfl (fun c31 => ?_) (fun c31 => ?_)
      · have t32 := le_to c31
        refine ur_push rfl ?_
        exact ur_ret rfl rfl (hQ _ _ ⟨_, rfl, by omega⟩ hO0 un.rf (by omega) pre0)
      · have t33 := le_no c31
        refine ur_ldI rfl rfl ?_
        refine ur_push rfl ?_
        refine ur_push rfl ?_
        refine ur_callv rfl rfl (Nat.le_of_ble_eq_true rfl) (Nat.le_of_ble_eq_true rfl) rfl (sp_within _ _ _ _ _) ?_
        refine ur_neB rfl (fun c36 => ?_) (fun c36 => ?_)
        · have t37 := wi_toL c36 l_0 l_400
          refine ur_ldI rfl rfl ?_
          refine ur_push rfl ?_
          refine ur_if2 rfl (fun c38 => ?_) (fun c38 => ?_)
          · have t39 := eq_to c38
            refine ur_ldA rfl rfl ?_
            obtain ⟨hc40, k41⟩ := ok_0 hO0
            refine ur_get rfl hc40 rfl ?_
            refine ur_ldI rfl rfl ?_
            refine ur_ldI rfl rfl ?_
            refine ur_inl rfl (rcv_of hc1) (Nat.le_of_ble_eq_true rfl) (Nat.le_of_ble_eq_true rfl) (sd_X1_canBear hO0 _ _ pre0 (fun w42 hr43 => ?_))
            obtain ⟨b44, rfl, t45, t46⟩ := hr43
            show uRun _ (uCall Mt _) _ 85 (_, [(.inl (bi b44))], _, _, _)
            refine ur_neB rfl (fun c47 => ?_) (fun c47 => ?_)
            · have t48 := t45 c47
              refine ur_ldA rfl rfl ?_
              refine ur_get rfl hc40 rfl ?_
              refine ur_get rfl hc1 rfl ?_
              refine ur_push rfl ?_
              refine ur_if2 rfl (fun c49 => ?_) (fun c49 => ?_)
              · have t50 := lt_to c49
                refine ur_new rfl (Nat.le_of_ble_eq_true rfl) ?_
                refine ur_dup rfl rfl ?_
                refine ur_ldA rfl rfl ?_
                refine ur_get rfl (hs_ap hc40) rfl ?_
                refine ur_get rfl (hs_ap hc1) rfl ?_
                have t52 := fO_of (k := 1) (hs_ap hc1) rfl
                refine ur_ldI rfl rfl ?_
                refine ur_ldI rfl rfl ?_
                refine ur_ldI rfl rfl ?_
                refine ur_push rfl ?_
                refine ur_if2 rfl (fun c53 => ?_) (fun c53 => ?_)
                · have t54 := ne_to c53
                  exfalso
                  omega
                · have t55 := ne_no c53
                  refine ur_push rfl ?_
                  refine ur_go rfl ?_
                  refine ur_ldI rfl rfl ?_
                  refine ur_inl rfl (rcv_of ap_0) (Nat.le_of_ble_eq_true rfl) (Nat.le_of_ble_eq_true rfl) (sd_newWord hO0 _ _ _ _ _ (by show (0 ≤ f2.toInt ∧ f2.toInt ≤ 149) ∧ (0 ≤ x15.toInt ∧ x15.toInt ≤ 7) ∧ (0 ≤ x8.toInt ∧ x8.toInt ≤ 8) ∧ -1 ≤ ((-1) : Int32).toInt ∧ ((-1) : Int32).toInt ≤ 19; omega) (fun w56 h59 hr57 hO59 hv59 k58 hn62 hx60 => ?_))
                  have hc61 : h59[h0.length]? = some (.inl (10, [.inl f2, .inl x15, .inl x8, .inl (-1), .inl a2, .inl 0, .inl 0, .inl 0, .inl (-1), .inr (.inr none), .inl 0, .inl 0, .inl 0])) := by rw [hx60]; exact ap_0
                  have hu59 : un [16, 2501, 9010, 22005, 22006, 22007, 22008, 22009, 22010, 22011, 22012] h0 h59 := hv59.mono (by decide)
                  subst hr57
                  show uRun _ (uCall Mt _) _ 138 (_, [(.inr (.inr (some h0.length)))], _, _, _)
                  refine ur_svAk [some (.inr (.inr (some 0))), some (.inl a1), some (.inl a2), some (.inl a3), some (.inl x8), some (.inl x15), some (.inl x19), some (.inr (.inr (some h0.length)))] rfl rfl ?_
                  refine ur_ldA rfl rfl ?_
                  refine ur_ldA rfl rfl ?_
                  refine ur_get rfl (hv59.ko (n := 8) hc40 rfl (wid_f (by decide)) (by decide)) rfl ?_
                  refine ur_get rfl (hv59.ko (n := 11) hc1 rfl (wid_f (by decide)) (by decide)) rfl ?_
                  have t63 := fO_of (k := 1) (hv59.ko (n := 11) hc1 rfl (wid_f (by decide)) (by decide)) rfl
                  refine ur_ldA rfl rfl ?_
                  refine ur_get rfl (hv59.ko (n := 8) hc40 rfl (wid_f (by decide)) (by decide)) rfl ?_
                  refine ur_get rfl (hv59.ko (n := 11) hc1 rfl (wid_f (by decide)) (by decide)) rfl ?_
                  refine ur_ldA rfl rfl ?_
                  refine ur_get rfl (hv59.ko (n := 8) hc40 rfl (wid_f (by decide)) (by decide)) rfl ?_
                  refine ur_get rfl (hv59.ko (n := 11) hc1 rfl (wid_f (by decide)) (by decide)) rfl ?_
                  obtain ⟨g80, f65, f66, f67, f68, f69, f70, f71, f72, f73, o77, f74, f75, f76, hc64, k78, k79⟩ := hO59.word k58.2
                  have t81 := fO_keep (a := 15) (ci := 1) (n := 11) (k := 1) hO0 hO59 hv59 (by decide) rfl (by decide) rfl (by decide)
                  refine ur_inl rfl (rcv_of hc64) (Nat.le_of_ble_eq_true rfl) (Nat.le_of_ble_eq_true rfl) (sf_X10_dateIt hO59 g80 k58.2 _ _ _ (fun w82 h84 hr83 hO84 hv84 => ?_))
                  have hu84 : un [16, 2501, 9010, 22005, 22006, 22007, 22008, 22009, 22010, 22011, 22012] h59 h84 := hv84.mono (by decide)
                  subst hr83
                  show uRun _ (uCall Mt _) _ 166 (_, [], _, _, _)
                  have t85 := fO_of (k := 1) (hv84.ko (n := 11) (hv59.ko (n := 11) hc1 rfl (wid_f (by decide)) (by decide)) rfl (wid_f (by decide)) (by decide)) rfl
                  refine ur_ldA rfl rfl ?_
                  refine ur_get rfl (hv84.ko (n := 8) (hv59.ko (n := 8) hc40 rfl (wid_f (by decide)) (by decide)) rfl (wid_f (by decide)) (by decide)) rfl ?_
                  obtain ⟨f87, f88, hc86, k89⟩ := ok_41 hO84
                  have t90 := fO_keep (a := 15) (ci := 1) (n := 11) (k := 1) hO59 hO84 hv84 (by decide) rfl (by decide) rfl (by decide)
                  refine ur_inl rfl (rcv_of hc86) (Nat.le_of_ble_eq_true rfl) (Nat.le_of_ble_eq_true rfl) (sf_X7_forgetWeights hO84  (fun w91 h93 hr92 hO93 hv93 => ?_))
                  have hu93 : un [16, 2501, 9010, 22005, 22006, 22007, 22008, 22009, 22010, 22011, 22012] h84 h93 := hv93.mono (by decide)
                  subst hr92
                  show uRun _ (uCall Mt _) _ 173 (_, [], _, _, _)
                  have t94 := fO_of (k := 1) (hv93.ko (n := 11) (hv84.ko (n := 11) (hv59.ko (n := 11) hc1 rfl (wid_f (by decide)) (by decide)) rfl (wid_f (by decide)) (by decide)) rfl (wid_f (by decide)) (by decide)) rfl
                  refine ur_ldA rfl rfl ?_
                  refine ur_get rfl (hv93.ko (n := 8) (hv84.ko (n := 8) (hv59.ko (n := 8) hc40 rfl (wid_f (by decide)) (by decide)) rfl (wid_f (by decide)) (by decide)) rfl (wid_f (by decide)) (by decide)) rfl ?_
                  refine ur_ldA rfl rfl ?_
                  refine ur_ldI rfl rfl ?_
                  have k95 : fO h93 h0.length 1 = (x15 : Int32).toInt := ((fO_kw hO84 hO93 hv93 g80 (hu84.tm k58.2 (by decide)) rfl (by decide)).trans ((fO_kw hO59 hO84 hv84 g80 k58.2 rfl (by decide)).trans (fO_of (k := 1) hc61 rfl)))
                  have t96 := fO_keep (a := 15) (ci := 1) (n := 11) (k := 1) hO84 hO93 hv93 (by decide) rfl (by decide) rfl (by decide)
                  refine ur_inl rfl (rcv_of (hv93.ko (n := 11) (hv84.ko (n := 11) (hv59.ko (n := 11) hc1 rfl (wid_f (by decide)) (by decide)) rfl (wid_f (by decide)) (by decide)) rfl (wid_f (by decide)) (by decide))) (Nat.le_of_ble_eq_true rfl) (Nat.le_of_ble_eq_true rfl) (sd_X1_addWord hO93 g80 (hu93.tm (hu84.tm k58.2 (by decide)) (by decide)) _ (((pre0.un hO0 hO59 hv59 (by decide) (by decide)).un hO59 hO84 hv84 (by decide) (by decide)).un hO84 hO93 hv93 (by decide) (by decide)) (by omega) (by rw [k95]; omega) (fun w97 h101 hr98 hO101 hv101 hp99 hp100 => ?_))
                  have hu101 : un [16, 2501, 9010, 22005, 22006, 22007, 22008, 22009, 22010, 22011, 22012] h93 h101 := hv101.mono (by decide)
                  obtain ⟨x102, rfl, t103⟩ := hr98
                  show uRun _ (uCall Mt _) _ 183 (_, [(.inl x102)], _, _, _)
                  obtain ⟨f105, f106, f107, f108, hc104, k109⟩ := ok_15 hO101
                  have t110 := fO_of (k := 1) hc104 rfl
                  have t111 := hv84.nW (by decide)
                  have t112 := hv93.nW (by decide)
                  have t113 := hv101.nW (by decide)
                  exact ur_ret rfl rfl (hQ _ _ ⟨_, rfl, by omega⟩ hO101 (hu59.tr (hu84.tr (hu93.tr hu101))) (by omega) hp100)
              · have t114 := lt_no c49
                refine ur_push rfl ?_
                exact ur_ret rfl rfl (hQ _ _ ⟨_, rfl, by omega⟩ hO0 un.rf (by omega) pre0)
            · have t115 := t46 c47
              refine ur_push rfl ?_
              exact ur_ret rfl rfl (hQ _ _ ⟨_, rfl, by omega⟩ hO0 un.rf (by omega) pre0)
          · have t116 := eq_no c38
            refine ur_ldA rfl rfl ?_
            obtain ⟨hc117, k118⟩ := ok_0 hO0
            refine ur_get rfl hc117 rfl ?_
            refine ur_ldI rfl rfl ?_
            refine ur_inl rfl (rcv_of hc1) (Nat.le_of_ble_eq_true rfl) (Nat.le_of_ble_eq_true rfl) (sd_X1_isToldReign hO0 _ (fun w119 hr120 => ?_))
            obtain ⟨b121, rfl, t122, t123⟩ := hr120
            show uRun _ (uCall Mt _) _ 70 (_, [(.inl (bi b121))], _, _, _)
            refine ur_neB rfl (fun c124 => ?_) (fun c124 => ?_)
            · have t125 := t122 c124
              refine ur_ldA rfl rfl ?_
              refine ur_get rfl hc117 rfl ?_
              refine ur_ldI rfl rfl ?_
              refine ur_ldI rfl rfl ?_
              refine ur_inl rfl (rcv_of hc1) (Nat.le_of_ble_eq_true rfl) (Nat.le_of_ble_eq_true rfl) (sd_X1_canBear hO0 _ _ pre0 (fun w126 hr127 => ?_))
              obtain ⟨b128, rfl, t129, t130⟩ := hr127
              show uRun _ (uCall Mt _) _ 85 (_, [(.inl (bi b128))], _, _, _)
              refine ur_neB rfl (fun c131 => ?_) (fun c131 => ?_)
              · have t132 := t129 c131
                refine ur_ldA rfl rfl ?_
                refine ur_get rfl hc117 rfl ?_
                refine ur_get rfl hc1 rfl ?_
                refine ur_push rfl ?_
                refine ur_if2 rfl (fun c133 => ?_) (fun c133 => ?_)
                · have t134 := lt_to c133
                  refine ur_new rfl (Nat.le_of_ble_eq_true rfl) ?_
                  refine ur_dup rfl rfl ?_
                  refine ur_ldA rfl rfl ?_
                  refine ur_get rfl (hs_ap hc117) rfl ?_
                  refine ur_get rfl (hs_ap hc1) rfl ?_
                  have t136 := fO_of (k := 1) (hs_ap hc1) rfl
                  refine ur_ldI rfl rfl ?_
                  refine ur_ldI rfl rfl ?_
                  refine ur_ldI rfl rfl ?_
                  refine ur_push rfl ?_
                  refine ur_if2 rfl (fun c137 => ?_) (fun c137 => ?_)
                  · have t138 := ne_to c137
                    refine ur_ldI rfl rfl ?_
                    refine ur_ldI rfl rfl ?_
                    refine ur_inl rfl (rcv_of ap_0) (Nat.le_of_ble_eq_true rfl) (Nat.le_of_ble_eq_true rfl) (sd_newWord hO0 _ _ _ _ _ (by show (0 ≤ f2.toInt ∧ f2.toInt ≤ 149) ∧ (0 ≤ x15.toInt ∧ x15.toInt ≤ 7) ∧ (0 ≤ x8.toInt ∧ x8.toInt ≤ 8) ∧ -1 ≤ x19.toInt ∧ x19.toInt ≤ 19; omega) (fun w139 h142 hr140 hO142 hv142 k141 hn145 hx143 => ?_))
                    have hc144 : h142[h0.length]? = some (.inl (10, [.inl f2, .inl x15, .inl x8, .inl x19, .inl a2, .inl 0, .inl 0, .inl 0, .inl (-1), .inr (.inr none), .inl 0, .inl 0, .inl 0])) := by rw [hx143]; exact ap_0
                    have hu142 : un [16, 2501, 9010, 22005, 22006, 22007, 22008, 22009, 22010, 22011, 22012] h0 h142 := hv142.mono (by decide)
                    subst hr140
                    show uRun _ (uCall Mt _) _ 138 (_, [(.inr (.inr (some h0.length)))], _, _, _)
                    refine ur_svAk [some (.inr (.inr (some 0))), some (.inl a1), some (.inl a2), some (.inl a3), some (.inl x8), some (.inl x15), some (.inl x19), some (.inr (.inr (some h0.length)))] rfl rfl ?_
                    refine ur_ldA rfl rfl ?_
                    refine ur_ldA rfl rfl ?_
                    refine ur_get rfl (hv142.ko (n := 8) hc117 rfl (wid_f (by decide)) (by decide)) rfl ?_
                    refine ur_get rfl (hv142.ko (n := 11) hc1 rfl (wid_f (by decide)) (by decide)) rfl ?_
                    have t146 := fO_of (k := 1) (hv142.ko (n := 11) hc1 rfl (wid_f (by decide)) (by decide)) rfl
                    refine ur_ldA rfl rfl ?_
                    refine ur_get rfl (hv142.ko (n := 8) hc117 rfl (wid_f (by decide)) (by decide)) rfl ?_
                    refine ur_get rfl (hv142.ko (n := 11) hc1 rfl (wid_f (by decide)) (by decide)) rfl ?_
                    refine ur_ldA rfl rfl ?_
                    refine ur_get rfl (hv142.ko (n := 8) hc117 rfl (wid_f (by decide)) (by decide)) rfl ?_
                    refine ur_get rfl (hv142.ko (n := 11) hc1 rfl (wid_f (by decide)) (by decide)) rfl ?_
                    obtain ⟨g163, f148, f149, f150, f151, f152, f153, f154, f155, f156, o160, f157, f158, f159, hc147, k161, k162⟩ := hO142.word k141.2
                    have t164 := fO_keep (a := 15) (ci := 1) (n := 11) (k := 1) hO0 hO142 hv142 (by decide) rfl (by decide) rfl (by decide)
                    refine ur_inl rfl (rcv_of hc147) (Nat.le_of_ble_eq_true rfl) (Nat.le_of_ble_eq_true rfl) (sf_X10_dateIt hO142 g163 k141.2 _ _ _ (fun w165 h167 hr166 hO167 hv167 => ?_))
                    have hu167 : un [16, 2501, 9010, 22005, 22006, 22007, 22008, 22009, 22010, 22011, 22012] h142 h167 := hv167.mono (by decide)
                    subst hr166
                    show uRun _ (uCall Mt _) _ 166 (_, [], _, _, _)
                    have t168 := fO_of (k := 1) (hv167.ko (n := 11) (hv142.ko (n := 11) hc1 rfl (wid_f (by decide)) (by decide)) rfl (wid_f (by decide)) (by decide)) rfl
                    refine ur_ldA rfl rfl ?_
                    refine ur_get rfl (hv167.ko (n := 8) (hv142.ko (n := 8) hc117 rfl (wid_f (by decide)) (by decide)) rfl (wid_f (by decide)) (by decide)) rfl ?_
                    obtain ⟨f170, f171, hc169, k172⟩ := ok_41 hO167
                    have t173 := fO_keep (a := 15) (ci := 1) (n := 11) (k := 1) hO142 hO167 hv167 (by decide) rfl (by decide) rfl (by decide)
                    refine ur_inl rfl (rcv_of hc169) (Nat.le_of_ble_eq_true rfl) (Nat.le_of_ble_eq_true rfl) (sf_X7_forgetWeights hO167  (fun w174 h176 hr175 hO176 hv176 => ?_))
                    have hu176 : un [16, 2501, 9010, 22005, 22006, 22007, 22008, 22009, 22010, 22011, 22012] h167 h176 := hv176.mono (by decide)
                    subst hr175
                    show uRun _ (uCall Mt _) _ 173 (_, [], _, _, _)
                    have t177 := fO_of (k := 1) (hv176.ko (n := 11) (hv167.ko (n := 11) (hv142.ko (n := 11) hc1 rfl (wid_f (by decide)) (by decide)) rfl (wid_f (by decide)) (by decide)) rfl (wid_f (by decide)) (by decide)) rfl
                    refine ur_ldA rfl rfl ?_
                    refine ur_get rfl (hv176.ko (n := 8) (hv167.ko (n := 8) (hv142.ko (n := 8) hc117 rfl (wid_f (by decide)) (by decide)) rfl (wid_f (by decide)) (by decide)) rfl (wid_f (by decide)) (by decide)) rfl ?_
                    refine ur_ldA rfl rfl ?_
                    refine ur_ldI rfl rfl ?_
                    have k178 : fO h176 h0.length 1 = (x15 : Int32).toInt := ((fO_kw hO167 hO176 hv176 g163 (hu167.tm k141.2 (by decide)) rfl (by decide)).trans ((fO_kw hO142 hO167 hv167 g163 k141.2 rfl (by decide)).trans (fO_of (k := 1) hc144 rfl)))
                    have t179 := fO_keep (a := 15) (ci := 1) (n := 11) (k := 1) hO167 hO176 hv176 (by decide) rfl (by decide) rfl (by decide)
                    refine ur_inl rfl (rcv_of (hv176.ko (n := 11) (hv167.ko (n := 11) (hv142.ko (n := 11) hc1 rfl (wid_f (by decide)) (by decide)) rfl (wid_f (by decide)) (by decide)) rfl (wid_f (by decide)) (by decide))) (Nat.le_of_ble_eq_true rfl) (Nat.le_of_ble_eq_true rfl) (sd_X1_addWord hO176 g163 (hu176.tm (hu167.tm k141.2 (by decide)) (by decide)) _ (((pre0.un hO0 hO142 hv142 (by decide) (by decide)).un hO142 hO167 hv167 (by decide) (by decide)).un hO167 hO176 hv176 (by decide) (by decide)) (by omega) (by rw [k178]; omega) (fun w180 h184 hr181 hO184 hv184 hp182 hp183 => ?_))
                    have hu184 : un [16, 2501, 9010, 22005, 22006, 22007, 22008, 22009, 22010, 22011, 22012] h176 h184 := hv184.mono (by decide)
                    obtain ⟨x185, rfl, t186⟩ := hr181
                    show uRun _ (uCall Mt _) _ 183 (_, [(.inl x185)], _, _, _)
                    obtain ⟨f188, f189, f190, f191, hc187, k192⟩ := ok_15 hO184
                    have t193 := fO_of (k := 1) hc187 rfl
                    have t194 := hv167.nW (by decide)
                    have t195 := hv176.nW (by decide)
                    have t196 := hv184.nW (by decide)
                    exact ur_ret rfl rfl (hQ _ _ ⟨_, rfl, by omega⟩ hO184 (hu142.tr (hu167.tr (hu176.tr hu184))) (by omega) hp183)
                  · have t197 := ne_no c137
                    refine ur_push rfl ?_
                    refine ur_go rfl ?_
                    refine ur_ldI rfl rfl ?_
                    refine ur_inl rfl (rcv_of ap_0) (Nat.le_of_ble_eq_true rfl) (Nat.le_of_ble_eq_true rfl) (sd_newWord hO0 _ _ _ _ _ (by show (0 ≤ f2.toInt ∧ f2.toInt ≤ 149) ∧ (0 ≤ x15.toInt ∧ x15.toInt ≤ 7) ∧ (0 ≤ x8.toInt ∧ x8.toInt ≤ 8) ∧ -1 ≤ ((-1) : Int32).toInt ∧ ((-1) : Int32).toInt ≤ 19; omega) (fun w198 h201 hr199 hO201 hv201 k200 hn204 hx202 => ?_))
                    have hc203 : h201[h0.length]? = some (.inl (10, [.inl f2, .inl x15, .inl x8, .inl (-1), .inl a2, .inl 0, .inl 0, .inl 0, .inl (-1), .inr (.inr none), .inl 0, .inl 0, .inl 0])) := by rw [hx202]; exact ap_0
                    have hu201 : un [16, 2501, 9010, 22005, 22006, 22007, 22008, 22009, 22010, 22011, 22012] h0 h201 := hv201.mono (by decide)
                    subst hr199
                    show uRun _ (uCall Mt _) _ 138 (_, [(.inr (.inr (some h0.length)))], _, _, _)
                    refine ur_svAk [some (.inr (.inr (some 0))), some (.inl a1), some (.inl a2), some (.inl a3), some (.inl x8), some (.inl x15), some (.inl x19), some (.inr (.inr (some h0.length)))] rfl rfl ?_
                    refine ur_ldA rfl rfl ?_
                    refine ur_ldA rfl rfl ?_
                    refine ur_get rfl (hv201.ko (n := 8) hc117 rfl (wid_f (by decide)) (by decide)) rfl ?_
                    refine ur_get rfl (hv201.ko (n := 11) hc1 rfl (wid_f (by decide)) (by decide)) rfl ?_
                    have t205 := fO_of (k := 1) (hv201.ko (n := 11) hc1 rfl (wid_f (by decide)) (by decide)) rfl
                    refine ur_ldA rfl rfl ?_
                    refine ur_get rfl (hv201.ko (n := 8) hc117 rfl (wid_f (by decide)) (by decide)) rfl ?_
                    refine ur_get rfl (hv201.ko (n := 11) hc1 rfl (wid_f (by decide)) (by decide)) rfl ?_
                    refine ur_ldA rfl rfl ?_
                    refine ur_get rfl (hv201.ko (n := 8) hc117 rfl (wid_f (by decide)) (by decide)) rfl ?_
                    refine ur_get rfl (hv201.ko (n := 11) hc1 rfl (wid_f (by decide)) (by decide)) rfl ?_
                    obtain ⟨g222, f207, f208, f209, f210, f211, f212, f213, f214, f215, o219, f216, f217, f218, hc206, k220, k221⟩ := hO201.word k200.2
                    have t223 := fO_keep (a := 15) (ci := 1) (n := 11) (k := 1) hO0 hO201 hv201 (by decide) rfl (by decide) rfl (by decide)
                    refine ur_inl rfl (rcv_of hc206) (Nat.le_of_ble_eq_true rfl) (Nat.le_of_ble_eq_true rfl) (sf_X10_dateIt hO201 g222 k200.2 _ _ _ (fun w224 h226 hr225 hO226 hv226 => ?_))
                    have hu226 : un [16, 2501, 9010, 22005, 22006, 22007, 22008, 22009, 22010, 22011, 22012] h201 h226 := hv226.mono (by decide)
                    subst hr225
                    show uRun _ (uCall Mt _) _ 166 (_, [], _, _, _)
                    have t227 := fO_of (k := 1) (hv226.ko (n := 11) (hv201.ko (n := 11) hc1 rfl (wid_f (by decide)) (by decide)) rfl (wid_f (by decide)) (by decide)) rfl
                    refine ur_ldA rfl rfl ?_
                    refine ur_get rfl (hv226.ko (n := 8) (hv201.ko (n := 8) hc117 rfl (wid_f (by decide)) (by decide)) rfl (wid_f (by decide)) (by decide)) rfl ?_
                    obtain ⟨f229, f230, hc228, k231⟩ := ok_41 hO226
                    have t232 := fO_keep (a := 15) (ci := 1) (n := 11) (k := 1) hO201 hO226 hv226 (by decide) rfl (by decide) rfl (by decide)
                    refine ur_inl rfl (rcv_of hc228) (Nat.le_of_ble_eq_true rfl) (Nat.le_of_ble_eq_true rfl) (sf_X7_forgetWeights hO226  (fun w233 h235 hr234 hO235 hv235 => ?_))
                    have hu235 : un [16, 2501, 9010, 22005, 22006, 22007, 22008, 22009, 22010, 22011, 22012] h226 h235 := hv235.mono (by decide)
                    subst hr234
                    show uRun _ (uCall Mt _) _ 173 (_, [], _, _, _)
                    have t236 := fO_of (k := 1) (hv235.ko (n := 11) (hv226.ko (n := 11) (hv201.ko (n := 11) hc1 rfl (wid_f (by decide)) (by decide)) rfl (wid_f (by decide)) (by decide)) rfl (wid_f (by decide)) (by decide)) rfl
                    refine ur_ldA rfl rfl ?_
                    refine ur_get rfl (hv235.ko (n := 8) (hv226.ko (n := 8) (hv201.ko (n := 8) hc117 rfl (wid_f (by decide)) (by decide)) rfl (wid_f (by decide)) (by decide)) rfl (wid_f (by decide)) (by decide)) rfl ?_
                    refine ur_ldA rfl rfl ?_
                    refine ur_ldI rfl rfl ?_
                    have k237 : fO h235 h0.length 1 = (x15 : Int32).toInt := ((fO_kw hO226 hO235 hv235 g222 (hu226.tm k200.2 (by decide)) rfl (by decide)).trans ((fO_kw hO201 hO226 hv226 g222 k200.2 rfl (by decide)).trans (fO_of (k := 1) hc203 rfl)))
                    have t238 := fO_keep (a := 15) (ci := 1) (n := 11) (k := 1) hO226 hO235 hv235 (by decide) rfl (by decide) rfl (by decide)
                    refine ur_inl rfl (rcv_of (hv235.ko (n := 11) (hv226.ko (n := 11) (hv201.ko (n := 11) hc1 rfl (wid_f (by decide)) (by decide)) rfl (wid_f (by decide)) (by decide)) rfl (wid_f (by decide)) (by decide))) (Nat.le_of_ble_eq_true rfl) (Nat.le_of_ble_eq_true rfl) (sd_X1_addWord hO235 g222 (hu235.tm (hu226.tm k200.2 (by decide)) (by decide)) _ (((pre0.un hO0 hO201 hv201 (by decide) (by decide)).un hO201 hO226 hv226 (by decide) (by decide)).un hO226 hO235 hv235 (by decide) (by decide)) (by omega) (by rw [k237]; omega) (fun w239 h243 hr240 hO243 hv243 hp241 hp242 => ?_))
                    have hu243 : un [16, 2501, 9010, 22005, 22006, 22007, 22008, 22009, 22010, 22011, 22012] h235 h243 := hv243.mono (by decide)
                    obtain ⟨x244, rfl, t245⟩ := hr240
                    show uRun _ (uCall Mt _) _ 183 (_, [(.inl x244)], _, _, _)
                    obtain ⟨f247, f248, f249, f250, hc246, k251⟩ := ok_15 hO243
                    have t252 := fO_of (k := 1) hc246 rfl
                    have t253 := hv226.nW (by decide)
                    have t254 := hv235.nW (by decide)
                    have t255 := hv243.nW (by decide)
                    exact ur_ret rfl rfl (hQ _ _ ⟨_, rfl, by omega⟩ hO243 (hu201.tr (hu226.tr (hu235.tr hu243))) (by omega) hp242)
                · have t256 := lt_no c133
                  refine ur_push rfl ?_
                  exact ur_ret rfl rfl (hQ _ _ ⟨_, rfl, by omega⟩ hO0 un.rf (by omega) pre0)
              · have t257 := t130 c131
                refine ur_push rfl ?_
                exact ur_ret rfl rfl (hQ _ _ ⟨_, rfl, by omega⟩ hO0 un.rf (by omega) pre0)
            · have t258 := t123 c124
              refine ur_push rfl ?_
              exact ur_ret rfl rfl (hQ _ _ ⟨_, rfl, by omega⟩ hO0 un.rf (by omega) pre0)
        · have t259 := wi_noL c36 l_0 l_400
          refine ur_push rfl ?_
          exact ur_ret rfl rfl (hQ _ _ ⟨_, rfl, by omega⟩ hO0 un.rf (by omega) pre0)

set_option maxRecDepth 20000 in
set_option maxHeartbeats 4000000 in
theorem sd_X11_addWordFromRow {d kc ks : Nat} {h0 : aH} {Q : Option aV → aH → Prop} (hO0 : OK h0) (a1 : Int32) (b1 : 0 ≤ a1.toInt ∧ a1.toInt ≤ 8) (a2 : Int32) (a3 : Int32) (pre0 : NA h0) (pre1 : ((0 ≤ a2.toInt ∧ a2.toInt ≤ 5) ∧ gI h0 58 a2.toInt = 2 ∧ 0 ≤ a3.toInt ∧ 0 ≤ 5 ∧ a3.toInt ≤ gI h0 61 a2.toInt ∧ 5 ≤ gI h0 61 a2.toInt - a3.toInt)) (hQ : ∀ r h', (∃ q, r = some (.inl (bi q)) ∧ (q = true → (((0 ≤ fl h0 (63 + a2.toInt.toNat) (a3.toInt + 0) ∧ fl h0 (63 + a2.toInt.toNat) (a3.toInt + 0) ≤ 9999) ∧ (0 ≤ fl h0 (63 + a2.toInt.toNat) (a3.toInt + 1) ∧ fl h0 (63 + a2.toInt.toNat) (a3.toInt + 1) ≤ 9999) ∧ (0 ≤ fl h0 (63 + a2.toInt.toNat) (a3.toInt + 2) ∧ fl h0 (63 + a2.toInt.toNat) (a3.toInt + 2) ≤ 9999) ∧ (0 ≤ fl h0 (63 + a2.toInt.toNat) (a3.toInt + 3) ∧ fl h0 (63 + a2.toInt.toNat) (a3.toInt + 3) ≤ 400) ∧ (fl h0 (63 + a2.toInt.toNat) (a3.toInt + 4) = 0 ∨ fl h0 (63 + a2.toInt.toNat) (a3.toInt + 4) = 4 ∨ fl h0 (63 + a2.toInt.toNat) (a3.toInt + 4) = 5)) ∧ fO h0 15 1 < 150) ∧ fO h' 15 1 = fO h0 15 1 + 1) ∧ (q = false → ¬ (((0 ≤ fl h0 (63 + a2.toInt.toNat) (a3.toInt + 0) ∧ fl h0 (63 + a2.toInt.toNat) (a3.toInt + 0) ≤ 9999) ∧ (0 ≤ fl h0 (63 + a2.toInt.toNat) (a3.toInt + 1) ∧ fl h0 (63 + a2.toInt.toNat) (a3.toInt + 1) ≤ 9999) ∧ (0 ≤ fl h0 (63 + a2.toInt.toNat) (a3.toInt + 2) ∧ fl h0 (63 + a2.toInt.toNat) (a3.toInt + 2) ≤ 9999) ∧ (0 ≤ fl h0 (63 + a2.toInt.toNat) (a3.toInt + 3) ∧ fl h0 (63 + a2.toInt.toNat) (a3.toInt + 3) ≤ 400) ∧ (fl h0 (63 + a2.toInt.toNat) (a3.toInt + 4) = 0 ∨ fl h0 (63 + a2.toInt.toNat) (a3.toInt + 4) = 4 ∨ fl h0 (63 + a2.toInt.toNat) (a3.toInt + 4) = 5)) ∧ fO h0 15 1 < 150) ∧ fO h' 15 1 = fO h0 15 1)) → OK h' → un [16, 2501, 9010, 22005, 22006, 22007, 22008, 22009, 22010, 22011, 22012] h0 h' → (nW h' ≤ nW h0 + 1) → (NA h') → Q r h') : uCall Mt (d + 7) 167 [(.inr (.inr (some 0))), (.inl a1), (.inl a2), (.inl a3)] h0 kc ks Q := by
  have l_m1 : ((-1) : Int32).toInt = -1 := by decide
  have l_0 : ((0) : Int32).toInt = 0 := by decide
  have l_1 : ((1) : Int32).toInt = 1 := by decide
  have l_2 : ((2) : Int32).toInt = 2 := by decide
  have l_3 : ((3) : Int32).toInt = 3 := by decide
  have l_4 : ((4) : Int32).toInt = 4 := by decide
  have l_5 : ((5) : Int32).toInt = 5 := by decide
  have l_150 : ((150) : Int32).toInt = 150 := by decide
  have l_400 : ((400) : Int32).toInt = 400 := by decide
  have l_9999 : ((9999) : Int32).toInt = 9999 := by decide
  refine uc_ink [some (.inr (.inr (some 0))), some (.inl a1), some (.inl a2), some (.inl a3), none, none, none, none, none, none] mt_167 (Nat.le_of_ble_eq_true rfl) rfl ?_
  obtain ⟨f2, f3, f4, f5, hc1, k6⟩ := ok_15 hO0
  have t7 := fO_of (k := 1) hc1 rfl
  refine ur_ldA rfl rfl ?_
  obtain ⟨hc8, k9⟩ := ok_0 hO0
  refine ur_get rfl hc8 rfl ?_
  refine ur_ldI rfl rfl ?_
  refine ur_ldI rfl rfl ?_
  obtain ⟨hc10, k11⟩ := ok_57 hO0
  refine ur_inl rfl (rcv_of hc10) (Nat.le_of_ble_eq_true rfl) (Nat.le_of_ble_eq_true rfl) (sd_X4_read hO0 _ _ (fun w12 hr13 => ?_))
  obtain ⟨y14, rfl, f15⟩ := hr13
  show uRun _ (uCall Mt _) _ 9 (_, [(.inr (.inl y14))], _, _, _)
  refine ur_l2iV rfl (fun x16 e17 => ?_)
  have t18 : fl h0 (63 + a2.toInt.toNat) (a3.toInt + 0) = x16.toInt := fl_of (by omega) (f15 (by omega)) e17
  refine ur_svIk [some (.inr (.inr (some 0))), some (.inl a1), some (.inl a2), some (.inl a3), some (.inl x16), none, none, none, none, none] rfl rfl ?_
  refine ur_ldA rfl rfl ?_
  refine ur_get rfl hc8 rfl ?_
  refine ur_ldI rfl rfl ?_
  refine ur_ldI rfl rfl ?_
  refine ur_push rfl ?_
  refine ur_binV rfl (fun x19 e20 => ?_)
  have z21 := any_r a3
  refine ur_inl rfl (rcv_of hc10) (Nat.le_of_ble_eq_true rfl) (Nat.le_of_ble_eq_true rfl) (sd_X4_read hO0 _ _ (fun w22 hr23 => ?_))
  obtain ⟨y24, rfl, f25⟩ := hr23
  show uRun _ (uCall Mt _) _ 23 (_, [(.inr (.inl y24))], _, _, _)
  refine ur_l2iV rfl (fun x26 e27 => ?_)
  have t28 : fl h0 (63 + a2.toInt.toNat) (a3.toInt + 1) = x26.toInt := fl_of (by omega) (f25 (by omega)) e27
  refine ur_svIk [some (.inr (.inr (some 0))), some (.inl a1), some (.inl a2), some (.inl a3), some (.inl x16), some (.inl x26), none, none, none, none] rfl rfl ?_
  refine ur_ldA rfl rfl ?_
  refine ur_get rfl hc8 rfl ?_
  refine ur_ldI rfl rfl ?_
  refine ur_ldI rfl rfl ?_
  refine ur_push rfl ?_
  refine ur_binV rfl (fun x29 e30 => ?_)
  refine ur_inl rfl (rcv_of hc10) (Nat.le_of_ble_eq_true rfl) (Nat.le_of_ble_eq_true rfl) (sd_X4_read hO0 _ _ (fun w31 hr32 => ?_))
  obtain ⟨y33, rfl, f34⟩ := hr32
  show uRun _ (uCall Mt _) _ 37 (_, [(.inr (.inl y33))], _, _, _)
  refine ur_l2iV rfl (fun x35 e36 => ?_)
  have t37 : fl h0 (63 + a2.toInt.toNat) (a3.toInt + 2) = x35.toInt := fl_of (by omega) (f34 (by omega)) e36
  refine ur_svIk [some (.inr (.inr (some 0))), some (.inl a1), some (.inl a2), some (.inl a3), some (.inl x16), some (.inl x26), some (.inl x35), none, none, none] rfl rfl ?_
  refine ur_ldA rfl rfl ?_
  refine ur_get rfl hc8 rfl ?_
  refine ur_ldI rfl rfl ?_
  refine ur_ldI rfl rfl ?_
  refine ur_push rfl ?_
  refine ur_binV rfl (fun x38 e39 => ?_)
  refine ur_inl rfl (rcv_of hc10) (Nat.le_of_ble_eq_true rfl) (Nat.le_of_ble_eq_true rfl) (sd_X4_read hO0 _ _ (fun w40 hr41 => ?_))
  obtain ⟨y42, rfl, f43⟩ := hr41
  show uRun _ (uCall Mt _) _ 51 (_, [(.inr (.inl y42))], _, _, _)
  refine ur_l2iV rfl (fun x44 e45 => ?_)
  have t46 : fl h0 (63 + a2.toInt.toNat) (a3.toInt + 3) = x44.toInt := fl_of (by omega) (f43 (by omega)) e45
  refine ur_svIk [some (.inr (.inr (some 0))), some (.inl a1), some (.inl a2), some (.inl a3), some (.inl x16), some (.inl x26), some (.inl x35), some (.inl x44), none, none] rfl rfl ?_
  refine ur_ldA rfl rfl ?_
  refine ur_get rfl hc8 rfl ?_
  refine ur_ldI rfl rfl ?_
  refine ur_ldI rfl rfl ?_
  refine ur_push rfl ?_
  refine ur_binV rfl (fun x47 e48 => ?_)
  refine ur_inl rfl (rcv_of hc10) (Nat.le_of_ble_eq_true rfl) (Nat.le_of_ble_eq_true rfl) (sd_X4_read hO0 _ _ (fun w49 hr50 => ?_))
  obtain ⟨y51, rfl, f52⟩ := hr50
  show uRun _ (uCall Mt _) _ 65 (_, [(.inr (.inl y51))], _, _, _)
  refine ur_l2iV rfl (fun x53 e54 => ?_)
  have t55 : fl h0 (63 + a2.toInt.toNat) (a3.toInt + 4) = x53.toInt := fl_of (by omega) (f52 (by omega)) e54
  refine ur_svIk [some (.inr (.inr (some 0))), some (.inl a1), some (.inl a2), some (.inl a3), some (.inl x16), some (.inl x26), some (.inl x35), some (.inl x44), some (.inl x53), none] rfl rfl ?_
  refine ur_ldI rfl rfl ?_
  refine ur_callv rfl rfl (Nat.le_of_ble_eq_true rfl) (Nat.le_of_ble_eq_true rfl) rfl (sp_isDat _ _) ?_
  refine ur_eqB rfl (fun c58 => ?_) (fun c58 => ?_)
  · have t59 := wi_noL c58 l_0 l_9999
    refine ur_push rfl ?_
    exact ur_ret rfl rfl (hQ _ _ ⟨false, rfl, fun e => absurd e (by decide), fun _ => by omega⟩ hO0 un.rf (by omega) pre0)
  · have t60 := wi_toL c58 l_0 l_9999
    refine ur_ldI rfl rfl ?_
    refine ur_callv rfl rfl (Nat.le_of_ble_eq_true rfl) (Nat.le_of_ble_eq_true rfl) rfl (sp_isDat _ _) ?_
    refine ur_eqB rfl (fun c63 => ?_) (fun c63 => ?_)
    · have t64 := wi_noL c63 l_0 l_9999
      refine ur_push rfl ?_
      exact ur_ret rfl rfl (hQ _ _ ⟨false, rfl, fun e => absurd e (by decide), fun _ => by omega⟩ hO0 un.rf (by omega) pre0)
    · have t65 := wi_toL c63 l_0 l_9999
      refine ur_ldI rfl rfl ?_
      refine ur_callv rfl rfl (Nat.le_of_ble_eq_true rfl) (Nat.le_of_ble_eq_true rfl) rfl (sp_isDat _ _) ?_
      refine ur_eqB rfl (fun c68 => ?_) (fun c68 => ?_)
      · have t69 := wi_noL c68 l_0 l_9999
        refine ur_push rfl ?_
        exact ur_ret rfl rfl (hQ _ _ ⟨false, rfl, fun e => absurd e (by decide), fun _ => by omega⟩ hO0 un.rf (by omega) pre0)
      · have t70 := wi_toL c68 l_0 l_9999
        refine ur_ldI rfl rfl ?_
        refine ur_push rfl ?_
        refine ur_push rfl ?_
        refine ur_callv rfl rfl (Nat.le_of_ble_eq_true rfl) (Nat.le_of_ble_eq_true rfl) rfl (sp_within _ _ _ _ _) ?_
        refine ur_neB rfl (fun c73 => ?_) (fun c73 => ?_)
        · have t74 := wi_toL c73 l_0 l_400
          refine ur_ldI rfl rfl ?_
          refine ur_if1 rfl (fun c75 => ?_) (fun c75 => ?_)
          · have t76 := eq_to c75
            refine ur_ldA rfl rfl ?_
            refine ur_get rfl hc8 rfl ?_
            refine ur_get rfl hc1 rfl ?_
            refine ur_push rfl ?_
            refine ur_if2 rfl (fun c77 => ?_) (fun c77 => ?_)
            · have t78 := lt_to c77
              refine ur_new rfl (Nat.le_of_ble_eq_true rfl) ?_
              refine ur_dup rfl rfl ?_
              refine ur_ldA rfl rfl ?_
              refine ur_get rfl (hs_ap hc8) rfl ?_
              refine ur_get rfl (hs_ap hc1) rfl ?_
              have t80 := fO_of (k := 1) (hs_ap hc1) rfl
              refine ur_ldI rfl rfl ?_
              refine ur_ldI rfl rfl ?_
              refine ur_push rfl ?_
              refine ur_ldI rfl rfl ?_
              refine ur_inl rfl (rcv_of ap_0) (Nat.le_of_ble_eq_true rfl) (Nat.le_of_ble_eq_true rfl) (sd_newWord hO0 _ _ _ _ _ (by show (0 ≤ f2.toInt ∧ f2.toInt ≤ 149) ∧ (0 ≤ x53.toInt ∧ x53.toInt ≤ 7) ∧ (0 ≤ a1.toInt ∧ a1.toInt ≤ 8) ∧ -1 ≤ ((-1) : Int32).toInt ∧ ((-1) : Int32).toInt ≤ 19; omega) (fun w81 h84 hr82 hO84 hv84 k83 hn87 hx85 => ?_))
              have hc86 : h84[h0.length]? = some (.inl (10, [.inl f2, .inl x53, .inl a1, .inl (-1), .inl x44, .inl 0, .inl 0, .inl 0, .inl (-1), .inr (.inr none), .inl 0, .inl 0, .inl 0])) := by rw [hx85]; exact ap_0
              have hu84 : un [16, 2501, 9010, 22005, 22006, 22007, 22008, 22009, 22010, 22011, 22012] h0 h84 := hv84.mono (by decide)
              subst hr82
              show uRun _ (uCall Mt _) _ 160 (_, [(.inr (.inr (some h0.length)))], _, _, _)
              refine ur_svAk [some (.inr (.inr (some 0))), some (.inl a1), some (.inl a2), some (.inl a3), some (.inl x16), some (.inl x26), some (.inl x35), some (.inl x44), some (.inl x53), some (.inr (.inr (some h0.length)))] rfl rfl ?_
              refine ur_ldA rfl rfl ?_
              refine ur_ldI rfl rfl ?_
              refine ur_ldI rfl rfl ?_
              refine ur_ldI rfl rfl ?_
              obtain ⟨g104, f89, f90, f91, f92, f93, f94, f95, f96, f97, o101, f98, f99, f100, hc88, k102, k103⟩ := hO84.word k83.2
              have t105 := fO_keep (a := 15) (ci := 1) (n := 11) (k := 1) hO0 hO84 hv84 (by decide) rfl (by decide) rfl (by decide)
              refine ur_inl rfl (rcv_of hc88) (Nat.le_of_ble_eq_true rfl) (Nat.le_of_ble_eq_true rfl) (sf_X10_dateIt hO84 g104 k83.2 _ _ _ (fun w106 h108 hr107 hO108 hv108 => ?_))
              have hu108 : un [16, 2501, 9010, 22005, 22006, 22007, 22008, 22009, 22010, 22011, 22012] h84 h108 := hv108.mono (by decide)
              subst hr107
              show uRun _ (uCall Mt _) _ 173 (_, [], _, _, _)
              have t109 := fO_of (k := 1) (hv108.ko (n := 11) (hv84.ko (n := 11) hc1 rfl (wid_f (by decide)) (by decide)) rfl (wid_f (by decide)) (by decide)) rfl
              refine ur_ldA rfl rfl ?_
              refine ur_get rfl (hv108.ko (n := 8) (hv84.ko (n := 8) hc8 rfl (wid_f (by decide)) (by decide)) rfl (wid_f (by decide)) (by decide)) rfl ?_
              obtain ⟨f111, f112, hc110, k113⟩ := ok_41 hO108
              have t114 := fO_keep (a := 15) (ci := 1) (n := 11) (k := 1) hO84 hO108 hv108 (by decide) rfl (by decide) rfl (by decide)
              refine ur_inl rfl (rcv_of hc110) (Nat.le_of_ble_eq_true rfl) (Nat.le_of_ble_eq_true rfl) (sf_X7_forgetWeights hO108  (fun w115 h117 hr116 hO117 hv117 => ?_))
              have hu117 : un [16, 2501, 9010, 22005, 22006, 22007, 22008, 22009, 22010, 22011, 22012] h108 h117 := hv117.mono (by decide)
              subst hr116
              show uRun _ (uCall Mt _) _ 180 (_, [], _, _, _)
              have t118 := fO_of (k := 1) (hv117.ko (n := 11) (hv108.ko (n := 11) (hv84.ko (n := 11) hc1 rfl (wid_f (by decide)) (by decide)) rfl (wid_f (by decide)) (by decide)) rfl (wid_f (by decide)) (by decide)) rfl
              refine ur_ldA rfl rfl ?_
              refine ur_get rfl (hv117.ko (n := 8) (hv108.ko (n := 8) (hv84.ko (n := 8) hc8 rfl (wid_f (by decide)) (by decide)) rfl (wid_f (by decide)) (by decide)) rfl (wid_f (by decide)) (by decide)) rfl ?_
              refine ur_ldA rfl rfl ?_
              refine ur_push rfl ?_
              have k119 : fO h117 h0.length 1 = (x53 : Int32).toInt := ((fO_kw hO108 hO117 hv117 g104 (hu108.tm k83.2 (by decide)) rfl (by decide)).trans ((fO_kw hO84 hO108 hv108 g104 k83.2 rfl (by decide)).trans (fO_of (k := 1) hc86 rfl)))
              have t120 := fO_keep (a := 15) (ci := 1) (n := 11) (k := 1) hO108 hO117 hv117 (by decide) rfl (by decide) rfl (by decide)
              refine ur_inl rfl (rcv_of (hv117.ko (n := 11) (hv108.ko (n := 11) (hv84.ko (n := 11) hc1 rfl (wid_f (by decide)) (by decide)) rfl (wid_f (by decide)) (by decide)) rfl (wid_f (by decide)) (by decide))) (Nat.le_of_ble_eq_true rfl) (Nat.le_of_ble_eq_true rfl) (sd_X1_addWord hO117 g104 (hu117.tm (hu108.tm k83.2 (by decide)) (by decide)) _ (((pre0.un hO0 hO84 hv84 (by decide) (by decide)).un hO84 hO108 hv108 (by decide) (by decide)).un hO108 hO117 hv117 (by decide) (by decide)) (by omega) (by rw [k119]; omega) (fun w121 h125 hr122 hO125 hv125 hp123 hp124 => ?_))
              have hu125 : un [16, 2501, 9010, 22005, 22006, 22007, 22008, 22009, 22010, 22011, 22012] h117 h125 := hv125.mono (by decide)
              obtain ⟨x126, rfl, t127⟩ := hr122
              show uRun _ (uCall Mt _) _ 190 (_, [(.inl x126)], _, _, _)
              obtain ⟨f129, f130, f131, f132, hc128, k133⟩ := ok_15 hO125
              have t134 := fO_of (k := 1) hc128 rfl
              refine ur_pop rfl rfl ?_
              refine ur_push rfl ?_
              have t135 := hv108.nW (by decide)
              have t136 := hv117.nW (by decide)
              have t137 := hv125.nW (by decide)
              exact ur_ret rfl rfl (hQ _ _ ⟨true, rfl, fun _ => by omega, fun e => absurd e (by decide)⟩ hO125 (hu84.tr (hu108.tr (hu117.tr hu125))) (by omega) hp124)
            · have t138 := lt_no c77
              refine ur_push rfl ?_
              exact ur_ret rfl rfl (hQ _ _ ⟨false, rfl, fun e => absurd e (by decide), fun _ => by omega⟩ hO0 un.rf (by omega) pre0)
          · have t139 := eq_no c75
            refine ur_ldI rfl rfl ?_
            refine ur_push rfl ?_
            refine ur_if2 rfl (fun c140 => ?_) (fun c140 => ?_)
            · have t141 := eq_to c140
              refine ur_ldA rfl rfl ?_
              refine ur_get rfl hc8 rfl ?_
              refine ur_get rfl hc1 rfl ?_
              refine ur_push rfl ?_
              refine ur_if2 rfl (fun c142 => ?_) (fun c142 => ?_)
              · have t143 := lt_to c142
                refine ur_new rfl (Nat.le_of_ble_eq_true rfl) ?_
                refine ur_dup rfl rfl ?_
                refine ur_ldA rfl rfl ?_
                refine ur_get rfl (hs_ap hc8) rfl ?_
                refine ur_get rfl (hs_ap hc1) rfl ?_
                have t145 := fO_of (k := 1) (hs_ap hc1) rfl
                refine ur_ldI rfl rfl ?_
                refine ur_ldI rfl rfl ?_
                refine ur_push rfl ?_
                refine ur_ldI rfl rfl ?_
                refine ur_inl rfl (rcv_of ap_0) (Nat.le_of_ble_eq_true rfl) (Nat.le_of_ble_eq_true rfl) (sd_newWord hO0 _ _ _ _ _ (by show (0 ≤ f2.toInt ∧ f2.toInt ≤ 149) ∧ (0 ≤ x53.toInt ∧ x53.toInt ≤ 7) ∧ (0 ≤ a1.toInt ∧ a1.toInt ≤ 8) ∧ -1 ≤ ((-1) : Int32).toInt ∧ ((-1) : Int32).toInt ≤ 19; omega) (fun w146 h149 hr147 hO149 hv149 k148 hn152 hx150 => ?_))
                have hc151 : h149[h0.length]? = some (.inl (10, [.inl f2, .inl x53, .inl a1, .inl (-1), .inl x44, .inl 0, .inl 0, .inl 0, .inl (-1), .inr (.inr none), .inl 0, .inl 0, .inl 0])) := by rw [hx150]; exact ap_0
                have hu149 : un [16, 2501, 9010, 22005, 22006, 22007, 22008, 22009, 22010, 22011, 22012] h0 h149 := hv149.mono (by decide)
                subst hr147
                show uRun _ (uCall Mt _) _ 160 (_, [(.inr (.inr (some h0.length)))], _, _, _)
                refine ur_svAk [some (.inr (.inr (some 0))), some (.inl a1), some (.inl a2), some (.inl a3), some (.inl x16), some (.inl x26), some (.inl x35), some (.inl x44), some (.inl x53), some (.inr (.inr (some h0.length)))] rfl rfl ?_
                refine ur_ldA rfl rfl ?_
                refine ur_ldI rfl rfl ?_
                refine ur_ldI rfl rfl ?_
                refine ur_ldI rfl rfl ?_
                obtain ⟨g169, f154, f155, f156, f157, f158, f159, f160, f161, f162, o166, f163, f164, f165, hc153, k167, k168⟩ := hO149.word k148.2
                have t170 := fO_keep (a := 15) (ci := 1) (n := 11) (k := 1) hO0 hO149 hv149 (by decide) rfl (by decide) rfl (by decide)
                refine ur_inl rfl (rcv_of hc153) (Nat.le_of_ble_eq_true rfl) (Nat.le_of_ble_eq_true rfl) (sf_X10_dateIt hO149 g169 k148.2 _ _ _ (fun w171 h173 hr172 hO173 hv173 => ?_))
                have hu173 : un [16, 2501, 9010, 22005, 22006, 22007, 22008, 22009, 22010, 22011, 22012] h149 h173 := hv173.mono (by decide)
                subst hr172
                show uRun _ (uCall Mt _) _ 173 (_, [], _, _, _)
                have t174 := fO_of (k := 1) (hv173.ko (n := 11) (hv149.ko (n := 11) hc1 rfl (wid_f (by decide)) (by decide)) rfl (wid_f (by decide)) (by decide)) rfl
                refine ur_ldA rfl rfl ?_
                refine ur_get rfl (hv173.ko (n := 8) (hv149.ko (n := 8) hc8 rfl (wid_f (by decide)) (by decide)) rfl (wid_f (by decide)) (by decide)) rfl ?_
                obtain ⟨f176, f177, hc175, k178⟩ := ok_41 hO173
                have t179 := fO_keep (a := 15) (ci := 1) (n := 11) (k := 1) hO149 hO173 hv173 (by decide) rfl (by decide) rfl (by decide)
                refine ur_inl rfl (rcv_of hc175) (Nat.le_of_ble_eq_true rfl) (Nat.le_of_ble_eq_true rfl) (sf_X7_forgetWeights hO173  (fun w180 h182 hr181 hO182 hv182 => ?_))
                have hu182 : un [16, 2501, 9010, 22005, 22006, 22007, 22008, 22009, 22010, 22011, 22012] h173 h182 := hv182.mono (by decide)
                subst hr181
                show uRun _ (uCall Mt _) _ 180 (_, [], _, _, _)
                have t183 := fO_of (k := 1) (hv182.ko (n := 11) (hv173.ko (n := 11) (hv149.ko (n := 11) hc1 rfl (wid_f (by decide)) (by decide)) rfl (wid_f (by decide)) (by decide)) rfl (wid_f (by decide)) (by decide)) rfl
                refine ur_ldA rfl rfl ?_
                refine ur_get rfl (hv182.ko (n := 8) (hv173.ko (n := 8) (hv149.ko (n := 8) hc8 rfl (wid_f (by decide)) (by decide)) rfl (wid_f (by decide)) (by decide)) rfl (wid_f (by decide)) (by decide)) rfl ?_
                refine ur_ldA rfl rfl ?_
                refine ur_push rfl ?_
                have k184 : fO h182 h0.length 1 = (x53 : Int32).toInt := ((fO_kw hO173 hO182 hv182 g169 (hu173.tm k148.2 (by decide)) rfl (by decide)).trans ((fO_kw hO149 hO173 hv173 g169 k148.2 rfl (by decide)).trans (fO_of (k := 1) hc151 rfl)))
                have t185 := fO_keep (a := 15) (ci := 1) (n := 11) (k := 1) hO173 hO182 hv182 (by decide) rfl (by decide) rfl (by decide)
                refine ur_inl rfl (rcv_of (hv182.ko (n := 11) (hv173.ko (n := 11) (hv149.ko (n := 11) hc1 rfl (wid_f (by decide)) (by decide)) rfl (wid_f (by decide)) (by decide)) rfl (wid_f (by decide)) (by decide))) (Nat.le_of_ble_eq_true rfl) (Nat.le_of_ble_eq_true rfl) (sd_X1_addWord hO182 g169 (hu182.tm (hu173.tm k148.2 (by decide)) (by decide)) _ (((pre0.un hO0 hO149 hv149 (by decide) (by decide)).un hO149 hO173 hv173 (by decide) (by decide)).un hO173 hO182 hv182 (by decide) (by decide)) (by omega) (by rw [k184]; omega) (fun w186 h190 hr187 hO190 hv190 hp188 hp189 => ?_))
                have hu190 : un [16, 2501, 9010, 22005, 22006, 22007, 22008, 22009, 22010, 22011, 22012] h182 h190 := hv190.mono (by decide)
                obtain ⟨x191, rfl, t192⟩ := hr187
                show uRun _ (uCall Mt _) _ 190 (_, [(.inl x191)], _, _, _)
                obtain ⟨f194, f195, f196, f197, hc193, k198⟩ := ok_15 hO190
                have t199 := fO_of (k := 1) hc193 rfl
                refine ur_pop rfl rfl ?_
                refine ur_push rfl ?_
                have t200 := hv173.nW (by decide)
                have t201 := hv182.nW (by decide)
                have t202 := hv190.nW (by decide)
                exact ur_ret rfl rfl (hQ _ _ ⟨true, rfl, fun _ => by omega, fun e => absurd e (by decide)⟩ hO190 (hu149.tr (hu173.tr (hu182.tr hu190))) (by omega) hp189)
              · have t203 := lt_no c142
                refine ur_push rfl ?_
                exact ur_ret rfl rfl (hQ _ _ ⟨false, rfl, fun e => absurd e (by decide), fun _ => by omega⟩ hO0 un.rf (by omega) pre0)
            · have t204 := eq_no c140
              refine ur_ldI rfl rfl ?_
              refine ur_push rfl ?_
              refine ur_if2 rfl (fun c205 => ?_) (fun c205 => ?_)
              · have t206 := eq_to c205
                refine ur_ldA rfl rfl ?_
                refine ur_get rfl hc8 rfl ?_
                refine ur_get rfl hc1 rfl ?_
                refine ur_push rfl ?_
                refine ur_if2 rfl (fun c207 => ?_) (fun c207 => ?_)
                · have t208 := lt_to c207
                  refine ur_new rfl (Nat.le_of_ble_eq_true rfl) ?_
                  refine ur_dup rfl rfl ?_
                  refine ur_ldA rfl rfl ?_
                  refine ur_get rfl (hs_ap hc8) rfl ?_
                  refine ur_get rfl (hs_ap hc1) rfl ?_
                  have t210 := fO_of (k := 1) (hs_ap hc1) rfl
                  refine ur_ldI rfl rfl ?_
                  refine ur_ldI rfl rfl ?_
                  refine ur_push rfl ?_
                  refine ur_ldI rfl rfl ?_
                  refine ur_inl rfl (rcv_of ap_0) (Nat.le_of_ble_eq_true rfl) (Nat.le_of_ble_eq_true rfl) (sd_newWord hO0 _ _ _ _ _ (by show (0 ≤ f2.toInt ∧ f2.toInt ≤ 149) ∧ (0 ≤ x53.toInt ∧ x53.toInt ≤ 7) ∧ (0 ≤ a1.toInt ∧ a1.toInt ≤ 8) ∧ -1 ≤ ((-1) : Int32).toInt ∧ ((-1) : Int32).toInt ≤ 19; omega) (fun w211 h214 hr212 hO214 hv214 k213 hn217 hx215 => ?_))
                  have hc216 : h214[h0.length]? = some (.inl (10, [.inl f2, .inl x53, .inl a1, .inl (-1), .inl x44, .inl 0, .inl 0, .inl 0, .inl (-1), .inr (.inr none), .inl 0, .inl 0, .inl 0])) := by rw [hx215]; exact ap_0
                  have hu214 : un [16, 2501, 9010, 22005, 22006, 22007, 22008, 22009, 22010, 22011, 22012] h0 h214 := hv214.mono (by decide)
                  subst hr212
                  show uRun _ (uCall Mt _) _ 160 (_, [(.inr (.inr (some h0.length)))], _, _, _)
                  refine ur_svAk [some (.inr (.inr (some 0))), some (.inl a1), some (.inl a2), some (.inl a3), some (.inl x16), some (.inl x26), some (.inl x35), some (.inl x44), some (.inl x53), some (.inr (.inr (some h0.length)))] rfl rfl ?_
                  refine ur_ldA rfl rfl ?_
                  refine ur_ldI rfl rfl ?_
                  refine ur_ldI rfl rfl ?_
                  refine ur_ldI rfl rfl ?_
                  obtain ⟨g234, f219, f220, f221, f222, f223, f224, f225, f226, f227, o231, f228, f229, f230, hc218, k232, k233⟩ := hO214.word k213.2
                  have t235 := fO_keep (a := 15) (ci := 1) (n := 11) (k := 1) hO0 hO214 hv214 (by decide) rfl (by decide) rfl (by decide)
                  refine ur_inl rfl (rcv_of hc218) (Nat.le_of_ble_eq_true rfl) (Nat.le_of_ble_eq_true rfl) (sf_X10_dateIt hO214 g234 k213.2 _ _ _ (fun w236 h238 hr237 hO238 hv238 => ?_))
                  have hu238 : un [16, 2501, 9010, 22005, 22006, 22007, 22008, 22009, 22010, 22011, 22012] h214 h238 := hv238.mono (by decide)
                  subst hr237
                  show uRun _ (uCall Mt _) _ 173 (_, [], _, _, _)
                  have t239 := fO_of (k := 1) (hv238.ko (n := 11) (hv214.ko (n := 11) hc1 rfl (wid_f (by decide)) (by decide)) rfl (wid_f (by decide)) (by decide)) rfl
                  refine ur_ldA rfl rfl ?_
                  refine ur_get rfl (hv238.ko (n := 8) (hv214.ko (n := 8) hc8 rfl (wid_f (by decide)) (by decide)) rfl (wid_f (by decide)) (by decide)) rfl ?_
                  obtain ⟨f241, f242, hc240, k243⟩ := ok_41 hO238
                  have t244 := fO_keep (a := 15) (ci := 1) (n := 11) (k := 1) hO214 hO238 hv238 (by decide) rfl (by decide) rfl (by decide)
                  refine ur_inl rfl (rcv_of hc240) (Nat.le_of_ble_eq_true rfl) (Nat.le_of_ble_eq_true rfl) (sf_X7_forgetWeights hO238  (fun w245 h247 hr246 hO247 hv247 => ?_))
                  have hu247 : un [16, 2501, 9010, 22005, 22006, 22007, 22008, 22009, 22010, 22011, 22012] h238 h247 := hv247.mono (by decide)
                  subst hr246
                  show uRun _ (uCall Mt _) _ 180 (_, [], _, _, _)
                  have t248 := fO_of (k := 1) (hv247.ko (n := 11) (hv238.ko (n := 11) (hv214.ko (n := 11) hc1 rfl (wid_f (by decide)) (by decide)) rfl (wid_f (by decide)) (by decide)) rfl (wid_f (by decide)) (by decide)) rfl
                  refine ur_ldA rfl rfl ?_
                  refine ur_get rfl (hv247.ko (n := 8) (hv238.ko (n := 8) (hv214.ko (n := 8) hc8 rfl (wid_f (by decide)) (by decide)) rfl (wid_f (by decide)) (by decide)) rfl (wid_f (by decide)) (by decide)) rfl ?_
                  refine ur_ldA rfl rfl ?_
                  refine ur_push rfl ?_
                  have k249 : fO h247 h0.length 1 = (x53 : Int32).toInt := ((fO_kw hO238 hO247 hv247 g234 (hu238.tm k213.2 (by decide)) rfl (by decide)).trans ((fO_kw hO214 hO238 hv238 g234 k213.2 rfl (by decide)).trans (fO_of (k := 1) hc216 rfl)))
                  have t250 := fO_keep (a := 15) (ci := 1) (n := 11) (k := 1) hO238 hO247 hv247 (by decide) rfl (by decide) rfl (by decide)
                  refine ur_inl rfl (rcv_of (hv247.ko (n := 11) (hv238.ko (n := 11) (hv214.ko (n := 11) hc1 rfl (wid_f (by decide)) (by decide)) rfl (wid_f (by decide)) (by decide)) rfl (wid_f (by decide)) (by decide))) (Nat.le_of_ble_eq_true rfl) (Nat.le_of_ble_eq_true rfl) (sd_X1_addWord hO247 g234 (hu247.tm (hu238.tm k213.2 (by decide)) (by decide)) _ (((pre0.un hO0 hO214 hv214 (by decide) (by decide)).un hO214 hO238 hv238 (by decide) (by decide)).un hO238 hO247 hv247 (by decide) (by decide)) (by omega) (by rw [k249]; omega) (fun w251 h255 hr252 hO255 hv255 hp253 hp254 => ?_))
                  have hu255 : un [16, 2501, 9010, 22005, 22006, 22007, 22008, 22009, 22010, 22011, 22012] h247 h255 := hv255.mono (by decide)
                  obtain ⟨x256, rfl, t257⟩ := hr252
                  show uRun _ (uCall Mt _) _ 190 (_, [(.inl x256)], _, _, _)
                  obtain ⟨f259, f260, f261, f262, hc258, k263⟩ := ok_15 hO255
                  have t264 := fO_of (k := 1) hc258 rfl
                  refine ur_pop rfl rfl ?_
                  refine ur_push rfl ?_
                  have t265 := hv238.nW (by decide)
                  have t266 := hv247.nW (by decide)
                  have t267 := hv255.nW (by decide)
                  exact ur_ret rfl rfl (hQ _ _ ⟨true, rfl, fun _ => by omega, fun e => absurd e (by decide)⟩ hO255 (hu214.tr (hu238.tr (hu247.tr hu255))) (by omega) hp254)
                · have t268 := lt_no c207
                  refine ur_push rfl ?_
                  exact ur_ret rfl rfl (hQ _ _ ⟨false, rfl, fun e => absurd e (by decide), fun _ => by omega⟩ hO0 un.rf (by omega) pre0)
              · have t269 := eq_no c205
                refine ur_push rfl ?_
                exact ur_ret rfl rfl (hQ _ _ ⟨false, rfl, fun e => absurd e (by decide), fun _ => by omega⟩ hO0 un.rf (by omega) pre0)
        · have t270 := wi_noL c73 l_0 l_400
          refine ur_push rfl ?_
          exact ur_ret rfl rfl (hQ _ _ ⟨false, rfl, fun e => absurd e (by decide), fun _ => by omega⟩ hO0 un.rf (by omega) pre0)
end WRD
