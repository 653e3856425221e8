/-! word on fresh objects: a word's day is reckoned without a text -/
section P1T
variable {d : Nat} {h : aH} {kc ks w : Nat} {gs ws : List aV} {p y m dd rd : Int32}
theorem sp_told0 {z r : Nat} (hz : h[z]? = some (.inl (9, [.inr (.inr (some r)), .inl 0]))) : aCall Mt (d + 1) 109 [.inr (.inr (some z))] h 0 0 (fun r h' => r = some (.inl 0) ∧ h' = h) := by
  refine ac_ink [some (.inr (.inr (some z)))] mt_109 (Nat.le_of_ble_eq_true rfl) rfl ?_
  refine ar_ldA rfl rfl ?_
  refine ar_get rfl hz rfl ?_
  refine ar_if1t rfl (by decide) ?_
  refine ar_push rfl ?_
  exact ar_ret rfl rfl ⟨rfl, rfl⟩
theorem sp_recOf (hb : h[15]? = some (.inl (1, gs))) (g7 : gs[7]? = some (.inr (.inr (some 19)))) (h19 : h[19]? = some (.inr (6, .inr (.inr [some 23, some 25, some 27, some 29, some 31, some 33, some 35, some 37, some 39])))) (z0 : h[23]? = some (.inl (9, [.inr (.inr (some 24)), .inl 0]))) (z1 : h[25]? = some (.inl (9, [.inr (.inr (some 26)), .inl 0]))) (z2 : h[27]? = some (.inl (9, [.inr (.inr (some 28)), .inl 0]))) (z3 : h[29]? = some (.inl (9, [.inr (.inr (some 30)), .inl 0]))) (z4 : h[31]? = some (.inl (9, [.inr (.inr (some 32)), .inl 0]))) (z5 : h[33]? = some (.inl (9, [.inr (.inr (some 34)), .inl 0]))) (z6 : h[35]? = some (.inl (9, [.inr (.inr (some 36)), .inl 0]))) (z7 : h[37]? = some (.inl (9, [.inr (.inr (some 38)), .inl 0]))) (z8 : h[39]? = some (.inl (9, [.inr (.inr (some 40)), .inl 0]))) (hp : wi p 0 8 = true) : aCall Mt (d + 3) 7 [.inr (.inr (some 15)), .inl p] h 0 0 (fun r h' => (∃ z q, r = some (.inr (.inr (some z))) ∧ h[z]? = some (.inl (9, [.inr (.inr (some q)), .inl 0]))) ∧ h' = h) := by
  refine ac_ink [some (.inr (.inr (some 15))), some (.inl p)] mt_7 (Nat.le_of_ble_eq_true rfl) rfl ?_
  refine ar_ldI rfl rfl ?_
  refine ar_inl (mc := 0) (ms := 0) rfl rfl (Nat.le_of_ble_eq_true rfl) (Nat.le_of_ble_eq_true rfl) (by omega) (by omega) ?_
  refine ac_ink [some (.inl p)] mt_175 (Nat.le_of_ble_eq_true rfl) rfl ?_
  refine ar_ldI rfl rfl ?_
  refine ar_push rfl ?_
  refine ar_push rfl ?_
  refine ar_callv rfl rfl (Nat.le_of_ble_eq_true rfl) (Nat.le_of_ble_eq_true rfl) rfl (sp_within _ _ _ _ _) ?_
  refine ar_ret rfl (bi_ret _) ?_
  show aRun _ (aCall Mt _) _ 4 (_, [_], _, _, _)
  refine ar_if1f rfl (bi_e0f hp) ?_
  refine ar_ldA rfl rfl ?_
  refine ar_get rfl hb g7 ?_
  refine ar_ldI rfl rfl ?_
  have w := wi_to hp
  have l : ((0) : Int32).toInt = 0 := by decide
  have r : ((8) : Int32).toInt = 8 := by decide
  rcases (show p.toInt = 0 ∨ p.toInt = 1 ∨ p.toInt = 2 ∨ p.toInt = 3 ∨ p.toInt = 4 ∨ p.toInt = 5 ∨ p.toInt = 6 ∨ p.toInt = 7 ∨ p.toInt = 8 by omega) with n | n | n | n | n | n | n | n | n
  · have f : p = 0 := en_of n (show ((0) : Int32).toInt = 0 by decide)
    rw [f]
    refine ar_aldA rfl h19 (by decide) rfl ?_
    refine ar_go rfl ?_
    exact ar_ret rfl rfl ⟨⟨23, 24, rfl, z0⟩, rfl⟩
  · have f : p = 1 := en_of n (show ((1) : Int32).toInt = 1 by decide)
    rw [f]
    refine ar_aldA rfl h19 (by decide) rfl ?_
    refine ar_go rfl ?_
    exact ar_ret rfl rfl ⟨⟨25, 26, rfl, z1⟩, rfl⟩
  · have f : p = 2 := en_of n (show ((2) : Int32).toInt = 2 by decide)
    rw [f]
    refine ar_aldA rfl h19 (by decide) rfl ?_
    refine ar_go rfl ?_
    exact ar_ret rfl rfl ⟨⟨27, 28, rfl, z2⟩, rfl⟩
  · have f : p = 3 := en_of n (show ((3) : Int32).toInt = 3 by decide)
    rw [f]
    refine ar_aldA rfl h19 (by decide) rfl ?_
    refine ar_go rfl ?_
    exact ar_ret rfl rfl ⟨⟨29, 30, rfl, z3⟩, rfl⟩
  · have f : p = 4 := en_of n (show ((4) : Int32).toInt = 4 by decide)
    rw [f]
    refine ar_aldA rfl h19 (by decide) rfl ?_
    refine ar_go rfl ?_
    exact ar_ret rfl rfl ⟨⟨31, 32, rfl, z4⟩, rfl⟩
  · have f : p = 5 := en_of n (show ((5) : Int32).toInt = 5 by decide)
    rw [f]
    refine ar_aldA rfl h19 (by decide) rfl ?_
    refine ar_go rfl ?_
    exact ar_ret rfl rfl ⟨⟨33, 34, rfl, z5⟩, rfl⟩
  · have f : p = 6 := en_of n (show ((6) : Int32).toInt = 6 by decide)
    rw [f]
    refine ar_aldA rfl h19 (by decide) rfl ?_
    refine ar_go rfl ?_
    exact ar_ret rfl rfl ⟨⟨35, 36, rfl, z6⟩, rfl⟩
  · have f : p = 7 := en_of n (show ((7) : Int32).toInt = 7 by decide)
    rw [f]
    refine ar_aldA rfl h19 (by decide) rfl ?_
    refine ar_go rfl ?_
    exact ar_ret rfl rfl ⟨⟨37, 38, rfl, z7⟩, rfl⟩
  · have f : p = 8 := en_of n (show ((8) : Int32).toInt = 8 by decide)
    rw [f]
    refine ar_aldA rfl h19 (by decide) rfl ?_
    refine ar_go rfl ?_
    exact ar_ret rfl rfl ⟨⟨39, 40, rfl, z8⟩, rfl⟩
theorem sp_reck0 (hb : h[15]? = some (.inl (1, gs))) (g7 : gs[7]? = some (.inr (.inr (some 19)))) (h19 : h[19]? = some (.inr (6, .inr (.inr [some 23, some 25, some 27, some 29, some 31, some 33, some 35, some 37, some 39])))) (z0 : h[23]? = some (.inl (9, [.inr (.inr (some 24)), .inl 0]))) (z1 : h[25]? = some (.inl (9, [.inr (.inr (some 26)), .inl 0]))) (z2 : h[27]? = some (.inl (9, [.inr (.inr (some 28)), .inl 0]))) (z3 : h[29]? = some (.inl (9, [.inr (.inr (some 30)), .inl 0]))) (z4 : h[31]? = some (.inl (9, [.inr (.inr (some 32)), .inl 0]))) (z5 : h[33]? = some (.inl (9, [.inr (.inr (some 34)), .inl 0]))) (z6 : h[35]? = some (.inl (9, [.inr (.inr (some 36)), .inl 0]))) (z7 : h[37]? = some (.inl (9, [.inr (.inr (some 38)), .inl 0]))) (z8 : h[39]? = some (.inl (9, [.inr (.inr (some 40)), .inl 0]))) (hw : h[w]? = some (.inl (10, ws))) (w2 : ws[2]? = some (.inl p)) (w5 : ws[5]? = some (.inl y)) (w6 : ws[6]? = some (.inl m)) (w7 : ws[7]? = some (.inl dd)) (hp : wi p 0 8 = true) : aCall Mt (d + 4) 15 [.inr (.inr (some 15)), .inr (.inr (some w)), .inl rd] h 0 0 (fun r h' => (∃ x, r = some (.inl x)) ∧ h' = h) := by
  refine ac_ink [some (.inr (.inr (some 15))), some (.inr (.inr (some w))), some (.inl rd), none, none] mt_15 (Nat.le_of_ble_eq_true rfl) rfl ?_
  refine ar_ldA rfl rfl ?_
  refine ar_ldA rfl rfl ?_
  refine ar_get rfl hw w2 ?_
  refine ar_call rfl rfl (Nat.le_of_ble_eq_true rfl) (Nat.le_of_ble_eq_true rfl) (rcv_of hb) (Nat.zero_le _) (Nat.zero_le _) (sp_recOf hb g7 h19 z0 z1 z2 z3 z4 z5 z6 z7 z8 hp) (fun v h9 e => ?_)
  obtain ⟨⟨z, q, rfl, hz⟩, rfl⟩ := e
  refine ar_svAk [some (.inr (.inr (some 15))), some (.inr (.inr (some w))), some (.inl rd), some (.inr (.inr (some z))), none] rfl rfl ?_
  refine ar_push rfl ?_
  refine ar_ldA rfl rfl ?_
  refine ar_get rfl hw w5 ?_
  refine ar_bin rfl ?_
  refine ar_push rfl ?_
  refine ar_ldA rfl rfl ?_
  refine ar_get rfl hw w6 ?_
  refine ar_bin rfl ?_
  refine ar_bin rfl ?_
  refine ar_ldA rfl rfl ?_
  refine ar_get rfl hw w7 ?_
  refine ar_bin rfl ?_
  refine ar_svIk [some (.inr (.inr (some 15))), some (.inr (.inr (some w))), some (.inl rd), some (.inr (.inr (some z))), some (.inl _)] rfl rfl ?_
  refine ar_ldA rfl rfl ?_
  refine ar_nulS rfl ?_
  refine ar_ldA rfl rfl ?_
  refine ar_call rfl rfl (Nat.le_of_ble_eq_true rfl) (Nat.le_of_ble_eq_true rfl) (rcv_of hz) (Nat.zero_le _) (Nat.zero_le _) (sp_told0 hz) (fun v h9 e => ?_)
  obtain ⟨rfl, rfl⟩ := e
  refine ar_if1t rfl (by decide) ?_
  refine ar_push rfl ?_
  refine ar_push rfl ?_
  refine ar_ldI rfl rfl ?_
  refine ar_min rfl (by show ¬ 9 ≤ 3; decide) ?_
  refine ar_max rfl (by show ¬ 9 ≤ 2; decide) ?_
  exact ar_ret rfl rfl ⟨⟨_, rfl⟩, rfl⟩
/-- the first cells are as at first -/
def cFr (h : aH) : Prop := ∀ k, k < 114 → h[k]? = hF[k]?
theorem cFr_F : cFr hF := fun _ _ => rfl
theorem cFr.at {h : aH} (hb : cFr h) {k : Nat} {c : aC} (hk : k < 114) (hc : hF[k]? = some c) : h[k]? = some c := (hb k hk).trans hc
theorem cFr.set {h : aH} (hb : cFr h) {a : Nat} {c : aC} (ha : 114 ≤ a) : cFr (h.set a c) := fun k hk => by rw [List.getElem?_set_ne (by omega)]; exact hb k hk
theorem cFr.app {h g : aH} (hb : cFr h) : cFr (h ++ g) := fun k hk => by
  have h3 := hb k hk
  have h4 : k < hF.length := hk
  rw [List.getElem?_eq_getElem h4] at h3
  rw [hs_ap h3, List.getElem?_eq_getElem h4]
theorem cFr.r {h : aH} (hb : cFr h) : rFr h := fun k _ hk => hb k hk
theorem ar_genW {T : aTab} {Q : Option aV → aH → Prop} {pc : Nat} {al : aL} {st : List aV} {G : aH} {c : aC} (h1 : cFr G) (h2 : G[114]? = some c) (k : ∀ g, cFr g → g[114]? = some c → aRun T (aCall Mt d) Q pc (al, st, g, kc, ks)) : aRun T (aCall Mt d) Q pc (al, st, G, kc, ks) := k G h1 h2
end P1T
