/-! comet on fresh objects: reckonReturns where no great body is told -/
section P1R
variable {d : Nat} {Q : Option aV → aH → Prop} {kc ks : Nat} {h : aH} {a q b : Nat} {gs : List aV} {p s : Int32} {c2 c3 c4 c5 c6 c7 c11 c12 c13 : aV} {ps0 : List Int32}
def cF (q : Nat) (p s : Int32) (c2 c3 c4 c5 c6 c7 c11 c12 c13 : aV) (f l : Int32) : aC := .inl (2, [.inl p, .inl s, c2, c3, c4, c5, c6, c7, .inl f, .inl l, .inr (.inr (some q)), c11, c12, c13])
def cG (h : aH) (a q : Nat) (p s : Int32) (c2 c3 c4 c5 c6 c7 c11 c12 c13 : aV) (ps : List Int32) (f l : Int32) : aH := (h.set q (.inr (0, .inl ps))).set a (cF q p s c2 c3 c4 c5 c6 c7 c11 c12 c13 f l)
theorem cG_a {ps : List Int32} {f l f0 l0 : Int32} (ha : h[a]? = some (cF q p s c2 c3 c4 c5 c6 c7 c11 c12 c13 f0 l0)) (hne : q ≠ a) : (cG h a q p s c2 c3 c4 c5 c6 c7 c11 c12 c13 ps f l)[a]? = some (cF q p s c2 c3 c4 c5 c6 c7 c11 c12 c13 f l) := hs_eq (hs_ne hne ha)
theorem cG_q {ps : List Int32} {f l : Int32} (hq : h[q]? = some (.inr (0, .inl ps0))) (hne : q ≠ a) : (cG h a q p s c2 c3 c4 c5 c6 c7 c11 c12 c13 ps f l)[q]? = some (.inr (0, .inl ps)) := hs_ne (Ne.symm hne) (hs_eq hq)
theorem cG_b {ps : List Int32} {f l : Int32} (hb : h[b]? = some (.inl (6, gs))) (h1 : q ≠ b) (h2 : a ≠ b) : (cG h a q p s c2 c3 c4 c5 c6 c7 c11 c12 c13 ps f l)[b]? = some (.inl (6, gs)) := hs_ne h2 (hs_ne h1 hb)
theorem cG_F {ps : List Int32} {f l f' l' : Int32} : (cG h a q p s c2 c3 c4 c5 c6 c7 c11 c12 c13 ps f l).set a (cF q p s c2 c3 c4 c5 c6 c7 c11 c12 c13 f' l') = cG h a q p s c2 c3 c4 c5 c6 c7 c11 c12 c13 ps f' l' := List.set_set ..
theorem cG_p {ps ps' : List Int32} {f l : Int32} (hne : q ≠ a) : (cG h a q p s c2 c3 c4 c5 c6 c7 c11 c12 c13 ps f l).set q (.inr (0, .inl ps')) = cG h a q p s c2 c3 c4 c5 c6 c7 c11 c12 c13 ps' f l := by
  unfold cG
  rw [List.set_comm _ _ (Ne.symm hne), List.set_set]
theorem dec_i {k : Int32} {j : Nat} (hk : k.toInt = -(j : Int)) (hj : j < 100) : (k + (-1)).toInt = -((j + 1 : Nat) : Int) := by
  rw [Int32.toInt_add, hk, show ((-1 : Int32)).toInt = -1 by decide]
  unfold Int.bmod
  simp only []
  split <;> omega
theorem inc_i {k : Int32} {j : Nat} (hk : k.toInt = (j : Int)) (hj : j < 100) : (k + 1).toInt = ((j + 1 : Nat) : Int) := by
  rw [Int32.toInt_add, hk, show ((1 : Int32)).toInt = 1 by decide]
  unfold Int.bmod
  simp only []
  split <;> omega
theorem rr_2 {f0 l0 : Int32} (ha : h[a]? = some (cF q p s c2 c3 c4 c5 c6 c7 c11 c12 c13 f0 l0)) (hq : h[q]? = some (.inr (0, .inl ps0))) (hb : h[b]? = some (.inl (6, gs))) (g2 : gs[2]? = some (.inl 0)) (n1 : q ≠ a) (n2 : q ≠ b) (n3 : a ≠ b) (hQ : ∀ (ps : List Int32) (f l : Int32), ps.length = 121 → Q none (cG h a q p s c2 c3 c4 c5 c6 c7 c11 c12 c13 ps f l)) : ∀ (n j : Nat) (k : Int32) (ps : List Int32) (f l : Int32) (t3 t4 : Option aV), j + n = 61 → k.toInt = -(j : Int) → ps.length = 121 → aRun oX6_reckonReturns (aCall Mt (d + 3)) Q 89 ([some (.inr (.inr (some b))), some (.inr (.inr (some a))), some (.inl k), t3, t4], [], cG h a q p s c2 c3 c4 c5 c6 c7 c11 c12 c13 ps f l, kc, ks)
  | 0, j, k, ps, f, l, t3, t4, hj, hk, hp => by
    refine ar_ldI rfl rfl ?_
    refine ar_push rfl ?_
    refine ar_if2t rfl (decide_eq_true (Int32.lt_iff_toInt_lt.mpr (by rw [hk, show ((-60 : Int32)).toInt = -60 by decide]; omega))) ?_
    exact ar_ret0 rfl (hQ _ _ _ hp)
  | n + 1, j, k, ps, f, l, t3, t4, hj, hk, hp => by
    refine ar_ldI rfl rfl ?_
    refine ar_push rfl ?_
    refine ar_if2f rfl (decide_eq_false (Int32.not_lt.mpr (Int32.le_iff_toInt_le.mpr (by rw [hk, show ((-60 : Int32)).toInt = -60 by decide]; omega)))) ?_
    refine ar_ldA rfl rfl ?_
    refine ar_ldA rfl rfl ?_
    refine ar_ldI rfl rfl ?_
    refine ar_push rfl ?_
    refine ar_bin rfl ?_
    refine ar_call rfl rfl (Nat.le_of_ble_eq_true rfl) (Nat.le_of_ble_eq_true rfl) (rcv_of (cG_a ha n1)) (Nat.zero_le _) (Nat.zero_le _) (sp_passOf (cG_a ha n1) rfl rfl (cG_q hq n1) hp) (fun v h9 e => ?_)
    obtain ⟨⟨x, rfl⟩, rfl⟩ := e
    refine ar_ldA rfl rfl ?_
    refine ar_get rfl (cG_a ha n1) rfl ?_
    refine ar_call rfl rfl (Nat.le_of_ble_eq_true rfl) (Nat.le_of_ble_eq_true rfl) (rcv_of (cG_b hb n2 n3)) (Nat.zero_le _) (Nat.zero_le _) (sp_ahead0 (cG_b hb n2 n3) g2) (fun v h9 e => ?_)
    obtain ⟨⟨y, rfl⟩, rfl⟩ := e
    refine ar_svIk [some (.inr (.inr (some b))), some (.inr (.inr (some a))), some (.inl k), some (.inl y), t4] rfl rfl ?_
    refine ar_ldI rfl rfl ?_
    refine ar_callv rfl rfl (Nat.le_of_ble_eq_true rfl) (Nat.le_of_ble_eq_true rfl) rfl (sp_isDay _ _) ?_
    refine ar_neB rfl (fun c => ?_) (fun c => ?_)
    · refine ar_ldA rfl rfl ?_
      refine ar_ldI rfl rfl ?_
      refine ar_ldI rfl rfl ?_
      refine ar_call rfl rfl (Nat.le_of_ble_eq_true rfl) (Nat.le_of_ble_eq_true rfl) (rcv_of (cG_a ha n1)) (Nat.zero_le _) (Nat.zero_le _) (sp_setPass (cG_a ha n1) rfl (cG_q hq n1) hp) (fun v h9 e => ?_)
      obtain ⟨rfl, ps', hp', rfl⟩ := e
      rw [cG_p n1]
      refine ar_ldA rfl rfl ?_
      refine ar_ldI rfl rfl ?_
      refine ar_put rfl (cG_a ha n1) (Nat.le_of_ble_eq_true rfl) rfl ?_
      show aRun _ (aCall Mt _) _ 132 (_, [], (cG h a q p s c2 c3 c4 c5 c6 c7 c11 c12 c13 ps' f l).set a (cF q p s c2 c3 c4 c5 c6 c7 c11 c12 c13 k l), _, _)
      rw [cG_F]
      refine ar_incl (z := k + (-1)) [_, _, some (.inl _), _, _] rfl rfl rfl rfl ?_
      refine ar_go rfl ?_
      exact rr_2 ha hq hb g2 n1 n2 n3 hQ n (j + 1) _ ps' k l _ _ (by omega) (dec_i hk (by omega)) hp'
    · refine ar_go rfl ?_
      exact ar_ret0 rfl (hQ _ _ _ hp)
theorem rr_1 {f0 l0 : Int32} (ha : h[a]? = some (cF q p s c2 c3 c4 c5 c6 c7 c11 c12 c13 f0 l0)) (hq : h[q]? = some (.inr (0, .inl ps0))) (hb : h[b]? = some (.inl (6, gs))) (g2 : gs[2]? = some (.inl 0)) (n1 : q ≠ a) (n2 : q ≠ b) (n3 : a ≠ b) (hQ : ∀ (ps : List Int32) (f l : Int32), ps.length = 121 → Q none (cG h a q p s c2 c3 c4 c5 c6 c7 c11 c12 c13 ps f l)) : ∀ (n j : Nat) (k : Int32) (ps : List Int32) (f l : Int32) (t3 t4 : Option aV), j + n = 61 → k.toInt = (j : Int) → ps.length = 121 → aRun oX6_reckonReturns (aCall Mt (d + 3)) Q 26 ([some (.inr (.inr (some b))), some (.inr (.inr (some a))), some (.inl k), t3, t4], [], cG h a q p s c2 c3 c4 c5 c6 c7 c11 c12 c13 ps f l, kc, ks)
  | 0, j, k, ps, f, l, t3, t4, hj, hk, hp => by
    refine ar_ldI rfl rfl ?_
    refine ar_push rfl ?_
    refine ar_if2t rfl (decide_eq_true (Int32.lt_iff_toInt_lt.mpr (by rw [hk, show ((60 : Int32)).toInt = 60 by decide]; omega))) ?_
    refine ar_push rfl ?_
    refine ar_svIk [some (.inr (.inr (some b))), some (.inr (.inr (some a))), some (.inl (-1)), t3, t4] rfl rfl ?_
    exact rr_2 ha hq hb g2 n1 n2 n3 hQ 60 1 (-1) ps f l _ _ (by omega) (by decide) hp
  | n + 1, j, k, ps, f, l, t3, t4, hj, hk, hp => by
    refine ar_ldI rfl rfl ?_
    refine ar_push rfl ?_
    refine ar_if2f rfl (decide_eq_false (Int32.not_lt.mpr (Int32.le_iff_toInt_le.mpr (by rw [hk, show ((60 : Int32)).toInt = 60 by decide]; omega)))) ?_
    refine ar_ldA rfl rfl ?_
    refine ar_ldI rfl rfl ?_
    refine ar_push rfl ?_
    refine ar_bin rfl ?_
    refine ar_call rfl rfl (Nat.le_of_ble_eq_true rfl) (Nat.le_of_ble_eq_true rfl) (rcv_of (cG_a ha n1)) (Nat.zero_le _) (Nat.zero_le _) (sp_passOf (cG_a ha n1) rfl rfl (cG_q hq n1) hp) (fun v h9 e => ?_)
    obtain ⟨⟨x, rfl⟩, rfl⟩ := e
    refine ar_svIk [some (.inr (.inr (some b))), some (.inr (.inr (some a))), some (.inl k), some (.inl x), t4] rfl rfl ?_
    refine ar_ldI rfl rfl ?_
    refine ar_ldA rfl rfl ?_
    refine ar_get rfl (cG_a ha n1) rfl ?_
    refine ar_bin rfl ?_
    refine ar_ldA rfl rfl ?_
    refine ar_ldI rfl rfl ?_
    refine ar_ldA rfl rfl ?_
    refine ar_call rfl rfl (Nat.le_of_ble_eq_true rfl) (Nat.le_of_ble_eq_true rfl) (rcv_of (cG_b hb n2 n3)) (Nat.zero_le _) (Nat.zero_le _) (sp_all0 (cG_b hb n2 n3) g2) (fun v h9 e => ?_)
    obtain ⟨rfl, rfl⟩ := e
    refine ar_call rfl rfl (Nat.le_of_ble_eq_true rfl) (Nat.le_of_ble_eq_true rfl) (rcv_of (cG_b hb n2 n3)) (Nat.zero_le _) (Nat.zero_le _) (sp_pull0 (cG_b hb n2 n3) g2) (fun v h9 e => ?_)
    obtain ⟨rfl, rfl⟩ := e
    refine ar_bin rfl ?_
    refine ar_svIk [some (.inr (.inr (some b))), some (.inr (.inr (some a))), some (.inl k), some (.inl x), some (.inl _)] rfl rfl ?_
    refine ar_ldI rfl rfl ?_
    refine ar_callv rfl rfl (Nat.le_of_ble_eq_true rfl) (Nat.le_of_ble_eq_true rfl) rfl (sp_isDay _ _) ?_
    refine ar_neB rfl (fun c => ?_) (fun c => ?_)
    · refine ar_ldA rfl rfl ?_
      refine ar_ldI rfl rfl ?_
      refine ar_ldI rfl rfl ?_
      refine ar_call rfl rfl (Nat.le_of_ble_eq_true rfl) (Nat.le_of_ble_eq_true rfl) (rcv_of (cG_a ha n1)) (Nat.zero_le _) (Nat.zero_le _) (sp_setPass (cG_a ha n1) rfl (cG_q hq n1) hp) (fun v h9 e => ?_)
      obtain ⟨rfl, ps', hp', rfl⟩ := e
      rw [cG_p n1]
      refine ar_ldA rfl rfl ?_
      refine ar_ldI rfl rfl ?_
      refine ar_put rfl (cG_a ha n1) (Nat.le_of_ble_eq_true rfl) rfl ?_
      show aRun _ (aCall Mt _) _ 81 (_, [], (cG h a q p s c2 c3 c4 c5 c6 c7 c11 c12 c13 ps' f l).set a (cF q p s c2 c3 c4 c5 c6 c7 c11 c12 c13 f k), _, _)
      rw [cG_F]
      refine ar_incl (z := k + 1) [_, _, some (.inl _), _, _] rfl rfl rfl rfl ?_
      refine ar_go rfl ?_
      exact rr_1 ha hq hb g2 n1 n2 n3 hQ n (j + 1) _ ps' f k _ _ (by omega) (inc_i hk (by omega)) hp'
    · refine ar_go rfl ?_
      refine ar_push rfl ?_
      refine ar_svIk [some (.inr (.inr (some b))), some (.inr (.inr (some a))), some (.inl (-1)), some (.inl x), some (.inl _)] rfl rfl ?_
      exact rr_2 ha hq hb g2 n1 n2 n3 hQ 60 1 (-1) ps f l _ _ (by omega) (by decide) hp
/-- reckonReturns where no great body is told: it ends; only the comet's passes, first and last change -/
theorem sp_rr0 {f0 l0 : Int32} (ha : h[a]? = some (cF q p s c2 c3 c4 c5 c6 c7 c11 c12 c13 f0 l0)) (hq : h[q]? = some (.inr (0, .inl ps0))) (hb : h[b]? = some (.inl (6, gs))) (g2 : gs[2]? = some (.inl 0)) (n1 : q ≠ a) (n2 : q ≠ b) (n3 : a ≠ b) (hp : ps0.length = 121) : aCall Mt (d + 4) 67 [.inr (.inr (some b)), .inr (.inr (some a))] h 0 0 (fun r h' => r = none ∧ ∃ (ps : List Int32) (f l : Int32), ps.length = 121 ∧ h' = cG h a q p s c2 c3 c4 c5 c6 c7 c11 c12 c13 ps f l) := by
  refine ac_ink [some (.inr (.inr (some b))), some (.inr (.inr (some a))), none, none, none] mt_67 (Nat.le_of_ble_eq_true rfl) rfl ?_
  refine ar_ldA rfl rfl ?_
  refine ar_nulS rfl ?_
  refine ar_ldA rfl rfl ?_
  refine ar_push rfl ?_
  refine ar_ldA rfl rfl ?_
  refine ar_get rfl ha rfl ?_
  refine ar_call rfl rfl (Nat.le_of_ble_eq_true rfl) (Nat.le_of_ble_eq_true rfl) (rcv_of ha) (Nat.zero_le _) (Nat.zero_le _) (sp_setPass ha rfl hq hp) (fun v h9 e => ?_)
  obtain ⟨rfl, ps, hp', rfl⟩ := e
  refine ar_ldA rfl rfl ?_
  refine ar_push rfl ?_
  refine ar_put rfl (hs_ne n1 ha) (Nat.le_of_ble_eq_true rfl) rfl ?_
  show aRun _ (aCall Mt _) _ 19 (_, [], cG h a q p s c2 c3 c4 c5 c6 c7 c11 c12 c13 ps 0 l0, _, _)
  refine ar_ldA rfl rfl ?_
  refine ar_push rfl ?_
  refine ar_put rfl (cG_a ha n1) (Nat.le_of_ble_eq_true rfl) rfl ?_
  show aRun _ (aCall Mt _) _ 24 (_, [], (cG h a q p s c2 c3 c4 c5 c6 c7 c11 c12 c13 ps 0 l0).set a (cF q p s c2 c3 c4 c5 c6 c7 c11 c12 c13 0 0), _, _)
  rw [cG_F]
  refine ar_push rfl ?_
  refine ar_svIk [some (.inr (.inr (some b))), some (.inr (.inr (some a))), some (.inl 1), none, none] rfl rfl ?_
  exact rr_1 ha hq hb g2 n1 n2 n3 (fun ps f l hp => ⟨rfl, ps, f, l, hp, rfl⟩) 60 1 1 ps 0 0 _ _ (by omega) (by decide) hp'
end P1R
