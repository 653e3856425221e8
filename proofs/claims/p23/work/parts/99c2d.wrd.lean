/-! WORDS: how many there are, printed by program but for its head -/
section WRD
theorem NA.un {W : List Nat} {h h' : aH} (hN : NA h) (hO : OK h) (hO' : OK h') (g : un W h h') (h1 : 16 ∉ W) (h2 : 2501 ∉ W) : NA h' := by
  intro i hi
  rw [fO_keep (a := 15) (ci := 1) (n := 11) (k := 1) hO hO' g (by decide) rfl (by decide) rfl h2] at hi
  obtain ⟨z, hz⟩ := hN i hi
  obtain ⟨x, hc, hn, hs⟩ := hO.arr (hO.fix 16 (by decide) rfl) (by decide)
  obtain ⟨xs, rfl, _⟩ : ∃ xs, x = .inr (.inr xs) ∧ _ := hs
  refine ⟨z, ?_⟩
  rw [arR_of (g.ka hc hn (by decide) (by decide) (wid_f (by decide)) h1), ← arR_of hc]
  exact hz
theorem NA_push {h h1 h2 : aH} {kd kd' : Nat} {xs : List (Option Nat)} {j : Int32} {v : Nat} (hN : NA h) (pf : h[16]? = some (.inr (kd, .inr (.inr xs)))) (c : h1[16]? = some (.inr (kd', .inr (.inr (xs.set j.toInt.toNat (some v)))))) (hj : j.toInt = fO h 15 1) (hl : 0 ≤ j.toInt ∧ j.toInt < (150 : Nat)) (e : h2[16]? = h1[16]?) (hf : fO h2 15 1 = fO h 15 1 + 1) (hn : xs.length = 150) : NA h2 := by
  intro i hi
  rw [arR_of (e.trans c)]
  by_cases q : i = j.toInt.toNat
  · subst q
    exact ⟨v, List.getElem?_set_self (by omega)⟩
  · obtain ⟨z, hz⟩ := hN i (by omega)
    rw [arR_of pf] at hz
    exact ⟨z, by rw [List.getElem?_set_ne (fun e => q e.symm)]; exact hz⟩
theorem fO_kw {W : List Nat} {h h' : aH} {a k : Nat} (hO : OK h) (hO' : OK h') (g : un W h h') (ga : 114 ≤ a) (t : tg h a = (110, 13)) (h1 : scr 10 k = false) (h2 : 22000 + k ∉ W) : fO h' a k = fO h a k := by
  obtain ⟨fs, c1, e1, -⟩ := hO.obj (ci := 10) (n := 13) t (by decide)
  obtain ⟨gs, c2, e2, -⟩ := hO'.obj (ci := 10) (n := 13) (g.tm t (by decide)) (by decide)
  have e := g.fe c1 c2 k (wid_w ga) h1 h2
  unfold fO
  rw [c1, c2]
  show (match gs[k]? with
    | some (Sum.inl x) => x.toInt
    | _ => 0) = (match fs[k]? with
    | some (Sum.inl x) => x.toInt
    | _ => 0)
  rw [e]
def fl (h : aH) (a : Nat) (j : Int) : Int := (gL h a j).toInt32.toInt
theorem fl_of {h : aH} {a : Nat} {j k : Int} {y : Int64} {x : Int32} (e : k = j) (g : y = gL h a k) (q : y.toInt32 = x) : fl h a j = x.toInt := by
  unfold fl
  rw [← e, ← g, q]
variable {d : Nat} {T : aTab} {Q : Option aV → aH → Prop} {pc : Nat} {al : aL} {st : List aV} {h : aH} {kc ks n i : Nat}
theorem sd_newWord (hO : OK h) (nu ki pe re sl : Int32) (hr : (0 ≤ nu.toInt ∧ nu.toInt ≤ 149) ∧ (0 ≤ ki.toInt ∧ ki.toInt ≤ 7) ∧ (0 ≤ pe.toInt ∧ pe.toInt ≤ 8) ∧ -1 ≤ re.toInt ∧ re.toInt ≤ 19) (hQ : ∀ r h', r = none → OK h' → un [9010] h h' → (114 ≤ h.length ∧ tg h' h.length = (110, 13)) → nW h' ≤ nW h + 1 → h' = h ++ [.inl (10, [.inl nu, .inl ki, .inl pe, .inl re, .inl sl, .inl 0, .inl 0, .inl 0, .inl (-1), .inr (.inr none), .inl 0, .inl 0, .inl 0])] → Q r h') : uCall Mt (d + 1) 114 [.inr (.inr (some (h.length + 0))), .inl nu, .inl ki, .inl pe, .inl re, .inl sl] (h ++ [.inl (10, [.inl 0, .inl 0, .inl 0, .inl 0, .inl 0, .inl 0, .inl 0, .inl 0, .inl 0, .inr (.inr none), .inl 0, .inl 0, .inl 0])]) kc ks Q := by
  have hl := hO.len
  have a3 : tg (h ++ [.inl (10, [.inl nu, .inl ki, .inl pe, .inl re, .inl sl, .inl 0, .inl 0, .inl 0, .inl (-1), .inr (.inr none), .inl 0, .inl 0, .inl 0])]) h.length = (110, 13) := (ap_tg (h := h) (L := [.inl (10, [.inl nu, .inl ki, .inl pe, .inl re, .inl sl, .inl 0, .inl 0, .inl 0, .inl (-1), .inr (.inr none), .inl 0, .inl 0, .inl 0])]) (j := 0) rfl).trans rfl
  have a1 : OK (h ++ [.inl (10, [.inl nu, .inl ki, .inl pe, .inl re, .inl sl, .inl 0, .inl 0, .inl 0, .inl (-1), .inr (.inr none), .inl 0, .inl 0, .inl 0])]) := hO.appL (fun j c hc => by
    match j, hc with
    | 0, hc =>
      cases hc
      exact ⟨by omega, _, _, _, _, _, _, _, _, _, none, _, _, _, rfl, (fun z q => nomatch q), by omega⟩
    | j + 1, hc => cases hc)
  have a2 : un [9010] h (h ++ [.inl (10, [.inl nu, .inl ki, .inl pe, .inl re, .inl sl, .inl 0, .inl 0, .inl 0, .inl (-1), .inr (.inr none), .inl 0, .inl 0, .inl 0])]) := un.appL (by show (1 : Int) ≤ 4 * 0 + 0 + 1; omega) (by show (13 : Int) ≤ 385 * 0 + 8712 * 0 + 13 * 1; omega) (Or.inr rfl) (Or.inl (by decide))
  refine uc_ink [some (.inr (.inr (some (h.length + 0)))), some (.inl nu), some (.inl ki), some (.inl pe), some (.inl re), some (.inl sl)] mt_114 (Nat.le_of_ble_eq_true rfl) rfl ?_
  refine ur_ldA rfl rfl ?_
  refine ur_obj rfl (Nat.le_of_ble_eq_true rfl) ?_
  refine ur_ldA rfl rfl ?_
  refine ur_push rfl ?_
  refine ur_putA (i0 := 0) (L' := [.inl (10, [.inl 0, .inl 0, .inl 0, .inl 0, .inl 0, .inl 0, .inl 0, .inl 0, .inl 0, .inr (.inr none), .inl 0, .inl 0, .inl 0])]) rfl rfl (Nat.le_of_ble_eq_true rfl) rfl rfl ?_
  refine ur_ldA rfl rfl ?_
  refine ur_push rfl ?_
  refine ur_putA (i0 := 0) (L' := [.inl (10, [.inl 0, .inl 0, .inl 0, .inl 0, .inl 0, .inl 0, .inl 0, .inl 0, .inl 0, .inr (.inr none), .inl 0, .inl 0, .inl 0])]) rfl rfl (Nat.le_of_ble_eq_true rfl) rfl rfl ?_
  refine ur_ldA rfl rfl ?_
  refine ur_push rfl ?_
  refine ur_putA (i0 := 0) (L' := [.inl (10, [.inl 0, .inl 0, .inl 0, .inl 0, .inl 0, .inl 0, .inl 0, .inl 0, .inl 0, .inr (.inr none), .inl 0, .inl 0, .inl 0])]) rfl rfl (Nat.le_of_ble_eq_true rfl) rfl rfl ?_
  refine ur_ldA rfl rfl ?_
  refine ur_push rfl ?_
  refine ur_putA (i0 := 0) (L' := [.inl (10, [.inl 0, .inl 0, .inl 0, .inl 0, .inl 0, .inl 0, .inl 0, .inl 0, .inl (-1), .inr (.inr none), .inl 0, .inl 0, .inl 0])]) rfl rfl (Nat.le_of_ble_eq_true rfl) rfl rfl ?_
  refine ur_ldA rfl rfl ?_
  refine ur_push rfl ?_
  refine ur_putA (i0 := 0) (L' := [.inl (10, [.inl 0, .inl 0, .inl 0, .inl 0, .inl 0, .inl 0, .inl 0, .inl 0, .inl (-1), .inr (.inr none), .inl 0, .inl 0, .inl 0])]) rfl rfl (Nat.le_of_ble_eq_true rfl) rfl rfl ?_
  refine ur_ldA rfl rfl ?_
  refine ur_push rfl ?_
  refine ur_putA (i0 := 0) (L' := [.inl (10, [.inl 0, .inl 0, .inl 0, .inl 0, .inl 0, .inl 0, .inl 0, .inl 0, .inl (-1), .inr (.inr none), .inl 0, .inl 0, .inl 0])]) rfl rfl (Nat.le_of_ble_eq_true rfl) rfl rfl ?_
  refine ur_ldA rfl rfl ?_
  refine ur_push rfl ?_
  refine ur_putA (i0 := 0) (L' := [.inl (10, [.inl 0, .inl 0, .inl 0, .inl 0, .inl 0, .inl 0, .inl 0, .inl 0, .inl (-1), .inr (.inr none), .inl 0, .inl 0, .inl 0])]) rfl rfl (Nat.le_of_ble_eq_true rfl) rfl rfl ?_
  refine ur_ldA rfl rfl ?_
  refine ur_push rfl ?_
  refine ur_putA (i0 := 0) (L' := [.inl (10, [.inl 0, .inl 0, .inl 0, .inl 0, .inl 0, .inl 0, .inl 0, .inl 0, .inl (-1), .inr (.inr none), .inl 0, .inl 0, .inl 0])]) rfl rfl (Nat.le_of_ble_eq_true rfl) rfl rfl ?_
  refine ur_ldA rfl rfl ?_
  refine ur_ldI rfl rfl ?_
  refine ur_putA (i0 := 0) (L' := [.inl (10, [.inl nu, .inl 0, .inl 0, .inl 0, .inl 0, .inl 0, .inl 0, .inl 0, .inl (-1), .inr (.inr none), .inl 0, .inl 0, .inl 0])]) rfl rfl (Nat.le_of_ble_eq_true rfl) rfl rfl ?_
  refine ur_ldA rfl rfl ?_
  refine ur_ldI rfl rfl ?_
  refine ur_putA (i0 := 0) (L' := [.inl (10, [.inl nu, .inl ki, .inl 0, .inl 0, .inl 0, .inl 0, .inl 0, .inl 0, .inl (-1), .inr (.inr none), .inl 0, .inl 0, .inl 0])]) rfl rfl (Nat.le_of_ble_eq_true rfl) rfl rfl ?_
  refine ur_ldA rfl rfl ?_
  refine ur_ldI rfl rfl ?_
  refine ur_putA (i0 := 0) (L' := [.inl (10, [.inl nu, .inl ki, .inl pe, .inl 0, .inl 0, .inl 0, .inl 0, .inl 0, .inl (-1), .inr (.inr none), .inl 0, .inl 0, .inl 0])]) rfl rfl (Nat.le_of_ble_eq_true rfl) rfl rfl ?_
  refine ur_ldA rfl rfl ?_
  refine ur_ldI rfl rfl ?_
  refine ur_putA (i0 := 0) (L' := [.inl (10, [.inl nu, .inl ki, .inl pe, .inl re, .inl 0, .inl 0, .inl 0, .inl 0, .inl (-1), .inr (.inr none), .inl 0, .inl 0, .inl 0])]) rfl rfl (Nat.le_of_ble_eq_true rfl) rfl rfl ?_
  refine ur_ldA rfl rfl ?_
  refine ur_ldI rfl rfl ?_
  refine ur_putA (i0 := 0) (L' := [.inl (10, [.inl nu, .inl ki, .inl pe, .inl re, .inl sl, .inl 0, .inl 0, .inl 0, .inl (-1), .inr (.inr none), .inl 0, .inl 0, .inl 0])]) rfl rfl (Nat.le_of_ble_eq_true rfl) rfl rfl ?_
  exact ur_ret0 rfl (hQ _ _ rfl a1 a2 ⟨hO.len, a3⟩ (nW_app1 rfl) (by rfl))
set_option maxRecDepth 20000 in
set_option maxHeartbeats 4000000 in
theorem sd_X1_isToldReign {d kc ks : Nat} {h0 : aH} {Q : Option aV → aH → Prop} (hO0 : OK h0) (a1 : Int32) (hQ : ∀ r, (∃ q, r = some (.inl (bi q)) ∧ (q = true → ((0 ≤ a1.toInt ∧ a1.toInt ≤ 19) ∧ gI h0 17 a1.toInt ≠ -1)) ∧ (q = false → ¬ ((0 ≤ a1.toInt ∧ a1.toInt ≤ 19) ∧ gI h0 17 a1.toInt ≠ -1))) → Q r h0) : uCall Mt (d + 2) 9 [(.inr (.inr (some 15))), (.inl a1)] h0 kc ks Q := by
  have l_m1 : ((-1) : Int32).toInt = -1 := by decide
  have l_0 : ((0) : Int32).toInt = 0 := by decide
  have l_1 : ((1) : Int32).toInt = 1 := by decide
  have l_19 : ((19) : Int32).toInt = 19 := by decide
  refine uc_ink [some (.inr (.inr (some 15))), some (.inl a1)] mt_9 (Nat.le_of_ble_eq_true rfl) rfl ?_
  refine ur_ldI rfl rfl ?_
  refine ur_push rfl ?_
  refine ur_push rfl ?_
  refine ur_callv rfl rfl (Nat.le_of_ble_eq_true rfl) (Nat.le_of_ble_eq_true rfl) rfl (sp_within _ _ _ _ _) ?_
  refine ur_eqB rfl (fun c3 => ?_) (fun c3 => ?_)
  · have t4 := wi_noL c3 l_0 l_19
    refine ur_push rfl ?_
    exact ur_ret rfl rfl (hQ _ ⟨false, rfl, fun e => absurd e (by decide), fun _ => by omega⟩ )
  · have t5 := wi_toL c3 l_0 l_19
    refine ur_ldA rfl rfl ?_
    obtain ⟨f7, f8, f9, f10, hc6, k11⟩ := ok_15 hO0
    refine ur_get rfl hc6 rfl ?_
    refine ur_ldI rfl rfl ?_
    obtain ⟨xs13, hc12, hn14, he15⟩ := hO0.int (hO0.fix 17 (by decide) rfl)
    refine ur_aldV rfl hc12 hn14 (by omega) (fun x16 hx17 => ?_)
    have t18 := gI_of (j := a1) hc12 hx17
    refine ur_push rfl ?_
    refine ur_if2 rfl (fun c19 => ?_) (fun c19 => ?_)
    · have t20 := eq_to c19
      refine ur_push rfl ?_
      exact ur_ret rfl rfl (hQ _ ⟨false, rfl, fun e => absurd e (by decide), fun _ => by omega⟩ )
    · have t21 := eq_no c19
      refine ur_push rfl ?_
      refine ur_go rfl ?_
      exact ur_ret rfl rfl (hQ _ ⟨true, rfl, fun _ => by omega, fun e => absurd e (by decide)⟩ )

set_option maxRecDepth 20000 in
set_option maxHeartbeats 4000000 in
theorem sd_X1_canBear {d kc ks : Nat} {h0 : aH} {Q : Option aV → aH → Prop} (hO0 : OK h0) (a1 : Int32) (a2 : Int32) (pre0 : NA h0) (hQ : ∀ r, (∃ q, r = some (.inl (bi q)) ∧ (q = true → ((a1.toInt = 1 ∨ a1.toInt = 6 → 0 ≤ a2.toInt ∧ a2.toInt ≤ 23) ∧ (a1.toInt = 2 ∨ a1.toInt = 7 → 0 ≤ a2.toInt ∧ a2.toInt ≤ 1) ∧ (a1.toInt = 3 → 0 ≤ a2.toInt ∧ a2.toInt < fO h0 15 1))) ∧ (q = false → ¬ ((a1.toInt = 1 ∨ a1.toInt = 6 → 0 ≤ a2.toInt ∧ a2.toInt ≤ 23) ∧ (a1.toInt = 2 ∨ a1.toInt = 7 → 0 ≤ a2.toInt ∧ a2.toInt ≤ 1) ∧ (a1.toInt = 3 → 0 ≤ a2.toInt ∧ a2.toInt < fO h0 15 1)))) → Q r h0) : uCall Mt (d + 2) 10 [(.inr (.inr (some 15))), (.inl a1), (.inl a2)] h0 kc ks Q := by
  have l_0 : ((0) : Int32).toInt = 0 := by decide
  have l_1 : ((1) : Int32).toInt = 1 := by decide
  have l_23 : ((23) : Int32).toInt = 23 := by decide
  refine uc_ink [some (.inr (.inr (some 15))), some (.inl a1), some (.inl a2)] mt_10 (Nat.le_of_ble_eq_true rfl) rfl ?_
  obtain ⟨f2, f3, f4, f5, hc1, k6⟩ := ok_15 hO0
  have t7 := fO_of (k := 1) hc1 rfl
  refine ur_ldI rfl rfl ?_
  rcases (show (a1.toInt < 1 ∨ 7 < a1.toInt) ∨ a1.toInt = 1 ∨ a1.toInt = 2 ∨ a1.toInt = 3 ∨ a1.toInt = 4 ∨ a1.toInt = 5 ∨ a1.toInt = 6 ∨ a1.toInt = 7 by omega) with t8 | t8 | t8 | t8 | t8 | t8 | t8 | t8
  · refine ur_tabO rfl (by show a1.toInt < 1 ∨ 1 + 7 ≤ a1.toInt; omega) ?_
    refine ur_push rfl ?_
    exact ur_ret rfl rfl (hQ _ ⟨true, rfl, fun _ => by omega, fun e => absurd e (by decide)⟩ )
  · refine ur_tabI rfl (by omega) (by rw [t8]; rfl) ?_
    refine ur_ldI rfl rfl ?_
    refine ur_push rfl ?_
    refine ur_push rfl ?_
    refine ur_callv rfl rfl (Nat.le_of_ble_eq_true rfl) (Nat.le_of_ble_eq_true rfl) rfl (sp_within _ _ _ _ _) ?_
    exact ur_ret rfl (bi_ret _) (hQ _ ⟨_, rfl, fun w => by have w := wi_to w; omega, fun w => by have w := wi_no w; omega⟩ )
  · refine ur_tabI rfl (by omega) (by rw [t8]; rfl) ?_
    refine ur_ldI rfl rfl ?_
    refine ur_push rfl ?_
    refine ur_push rfl ?_
    refine ur_callv rfl rfl (Nat.le_of_ble_eq_true rfl) (Nat.le_of_ble_eq_true rfl) rfl (sp_within _ _ _ _ _) ?_
    exact ur_ret rfl (bi_ret _) (hQ _ ⟨_, rfl, fun w => by have w := wi_to w; omega, fun w => by have w := wi_no w; omega⟩ )
  · refine ur_tabI rfl (by omega) (by rw [t8]; rfl) ?_
    refine ur_ldA rfl rfl ?_
    refine ur_ldI rfl rfl ?_
    refine ur_inl rfl (rcv_of hc1) (Nat.le_of_ble_eq_true rfl) (Nat.le_of_ble_eq_true rfl) (sd_X1_wordAt hO0 _ pre0 (fun w13 hr14 => ?_))
    obtain ⟨o15, rfl, k16, t17, t18⟩ := hr14
    show uRun _ (uCall Mt _) _ 64 (_, [(.inr (.inr o15))], _, _, _)
    cases o15 with
    | none =>
      refine ur_nulN rfl ?_
      have t20 := t17 rfl
      refine ur_push rfl ?_
      exact ur_ret rfl rfl (hQ _ ⟨false, rfl, fun e => absurd e (by decide), fun _ => by omega⟩ )
    | some r19 =>
      refine ur_nulS rfl ?_
      have k21 := k16 _ rfl
      have t22 := t18 _ rfl
      refine ur_push rfl ?_
      refine ur_go rfl ?_
      exact ur_ret rfl rfl (hQ _ ⟨true, rfl, fun _ => by omega, fun e => absurd e (by decide)⟩ )
  · refine ur_tabI rfl (by omega) (by rw [t8]; rfl) ?_
    refine ur_push rfl ?_
    exact ur_ret rfl rfl (hQ _ ⟨true, rfl, fun _ => by omega, fun e => absurd e (by decide)⟩ )
  · refine ur_tabI rfl (by omega) (by rw [t8]; rfl) ?_
    refine ur_push rfl ?_
    exact ur_ret rfl rfl (hQ _ ⟨true, rfl, fun _ => by omega, fun e => absurd e (by decide)⟩ )
  · refine ur_tabI rfl (by omega) (by rw [t8]; rfl) ?_
    refine ur_ldI rfl rfl ?_
    refine ur_push rfl ?_
    refine ur_push rfl ?_
    refine ur_callv rfl rfl (Nat.le_of_ble_eq_true rfl) (Nat.le_of_ble_eq_true rfl) rfl (sp_within _ _ _ _ _) ?_
    exact ur_ret rfl (bi_ret _) (hQ _ ⟨_, rfl, fun w => by have w := wi_to w; omega, fun w => by have w := wi_no w; omega⟩ )
  · refine ur_tabI rfl (by omega) (by rw [t8]; rfl) ?_
    refine ur_ldI rfl rfl ?_
    refine ur_push rfl ?_
    refine ur_push rfl ?_
    refine ur_callv rfl rfl (Nat.le_of_ble_eq_true rfl) (Nat.le_of_ble_eq_true rfl) rfl (sp_within _ _ _ _ _) ?_
    exact ur_ret rfl (bi_ret _) (hQ _ ⟨_, rfl, fun w => by have w := wi_to w; omega, fun w => by have w := wi_no w; omega⟩ )

end WRD
