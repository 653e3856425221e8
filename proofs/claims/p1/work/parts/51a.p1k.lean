/-! comet on fresh objects: what its loops do -/
section P1K
theorem e241 : (241 : Int32) = nI 241 := by decide
theorem e60 : (60 : Int32) = nI 60 := by decide
variable {d : Nat} {Q : Option aV → aH → Prop} {kc ks : Nat}
theorem sp_turned (w e q : Int32) (h : aH) : aCall Mt (d + 1) 182 [.inl w, .inl e, .inl q] h 0 0 (fun r h' => (∃ x, r = some (.inl x)) ∧ h' = h) := by
  refine ac_ink [some (.inl w), some (.inl e), some (.inl q), none] mt_182 (Nat.le_of_ble_eq_true rfl) rfl ?_
  refine ar_ldI rfl rfl ?_
  refine ar_abs rfl (by show ¬ 9 ≤ 1; decide) ?_
  refine ar_ldI rfl rfl ?_
  refine ar_bin rfl ?_
  refine ar_svIk [some (.inl w), some (.inl e), some (.inl q), some (.inl _)] rfl rfl ?_
  refine ar_ldI rfl rfl ?_
  refine ar_if1 rfl (fun c => ?_) (fun c => ?_)
  · refine ar_ldI rfl rfl ?_
    refine ar_push rfl ?_
    refine ar_bin rfl ?_
    refine ar_ldI rfl rfl ?_
    refine ar_bin rfl ?_
    refine ar_ldI rfl rfl ?_
    refine ar_div rfl (of_decide_eq_true c) ?_
    exact ar_ret rfl rfl ⟨⟨_, rfl⟩, rfl⟩
  · refine ar_push rfl ?_
    refine ar_go rfl ?_
    exact ar_ret rfl rfl ⟨⟨_, rfl⟩, rfl⟩
theorem ci_loop {H : aH} {a q : Nat} {fs : List aV} {x1 x2 x3 x4 x5 x6 x7 : Int32} {ys0 : List Int32} (ha : H[a]? = some (.inl (2, fs))) (h11 : fs[11]? = some (.inr (.inr (some q)))) (hq : H[q]? = some (.inr (0, .inl ys0))) (hne : q ≠ a) (hQ : ∀ ys : List Int32, ys.length = 241 → Q none (H.set q (.inr (0, .inl ys)))) : ∀ (k j : Nat) (ys : List Int32), j + k = 241 → ys.length = 241 → aRun oX2_init (aCall Mt (d + 1)) Q 92 ([some (.inr (.inr (some a))), some (.inl x1), some (.inl x2), some (.inl x3), some (.inl x4), some (.inl x5), some (.inl x6), some (.inl x7), some (.inl (nI j))], [], H.set q (.inr (0, .inl ys)), kc, ks)
  | 0, j, ys, hj, hy => by
    have e : j = 241 := by omega
    subst e
    refine ar_ldI rfl rfl ?_
    refine ar_push rfl ?_
    refine ar_if2t rfl (by decide) ?_
    exact ar_ret0 rfl (hQ ys hy)
  | k + 1, j, ys, hj, hy => by
    refine ar_ldI rfl rfl ?_
    refine ar_push rfl ?_
    refine ar_if2f rfl (by rw [e241]; exact decide_eq_false (nI_ge (by omega) (by decide))) ?_
    refine ar_ldA rfl rfl ?_
    refine ar_get rfl (hs_ne hne ha) h11 ?_
    refine ar_ldI rfl rfl ?_
    refine ar_ldI rfl rfl ?_
    refine ar_ldI rfl rfl ?_
    refine ar_ldI rfl rfl ?_
    refine ar_push rfl ?_
    refine ar_bin rfl ?_
    refine ar_ldI rfl rfl ?_
    refine ar_call rfl rfl (Nat.le_of_ble_eq_true rfl) (Nat.le_of_ble_eq_true rfl) rfl (Nat.zero_le _) (Nat.zero_le _) (sp_turned _ _ _ _) (fun v h9 e => ?_)
    obtain ⟨⟨x, rfl⟩, rfl⟩ := e
    refine ar_bin rfl ?_
    refine ar_push rfl ?_
    refine ar_bin rfl ?_
    refine ar_push rfl ?_
    refine ar_div rfl (by decide) ?_
    refine ar_ast rfl (hs_eq hq) (nI_pos (by omega)) (by rw [nI_clamp (by omega), hy]; omega) ?_
    rw [List.set_set]
    refine ar_incl (z := nI (j + 1)) [_, _, _, _, _, _, _, _, some (.inl _)] rfl rfl (nI_1 j) rfl ?_
    refine ar_go rfl ?_
    exact ci_loop ha h11 hq hne hQ k (j + 1) _ (by omega) (by rw [List.length_set]; exact hy)
theorem ci_start {H : aH} {a q : Nat} {fs : List aV} {x1 x2 x3 x4 x5 x6 x7 : Int32} {ys0 : List Int32} (ha : H[a]? = some (.inl (2, fs))) (h11 : fs[11]? = some (.inr (.inr (some q)))) (hq : H[q]? = some (.inr (0, .inl ys0))) (hne : q ≠ a) (hy : ys0.length = 241) (hQ : ∀ ys : List Int32, ys.length = 241 → Q none (H.set q (.inr (0, .inl ys)))) : aRun oX2_init (aCall Mt (d + 1)) Q 92 ([some (.inr (.inr (some a))), some (.inl x1), some (.inl x2), some (.inl x3), some (.inl x4), some (.inl x5), some (.inl x6), some (.inl x7), some (.inl 0)], [], H, kc, ks) := by
  have k := ci_loop (d := d) (Q := Q) (kc := kc) (ks := ks) (x1 := x1) (x2 := x2) (x3 := x3) (x4 := x4) (x5 := x5) (x6 := x6) (x7 := x7) ha h11 hq hne hQ 241 0 ys0 (by decide) hy
  rw [set_same hq] at k
  exact k
theorem sp_isRet (k : Int32) (h : aH) : aCall Mt (d + 2) 177 [.inl k] h 0 0 (fun r h' => r = some (.inl (bi (wi k (-60) 60))) ∧ h' = h) := by
  refine ac_ink [some (.inl k)] mt_177 (Nat.le_of_ble_eq_true rfl) rfl ?_
  refine ar_ldI rfl rfl ?_
  refine ar_push rfl ?_
  refine ar_push rfl ?_
  refine ar_callv rfl rfl (Nat.le_of_ble_eq_true rfl) (Nat.le_of_ble_eq_true rfl) rfl (sp_within _ _ _ _ _) ?_
  exact ar_ret rfl (bi_ret _) ⟨rfl, rfl⟩
theorem sp_isDay (k : Int32) (h : aH) : aCall Mt (d + 2) 174 [.inl k] h 0 0 (fun r h' => r = some (.inl (bi (wi k 0 999999))) ∧ h' = h) := by
  refine ac_ink [some (.inl k)] mt_174 (Nat.le_of_ble_eq_true rfl) rfl ?_
  refine ar_ldI rfl rfl ?_
  refine ar_push rfl ?_
  refine ar_push rfl ?_
  refine ar_callv rfl rfl (Nat.le_of_ble_eq_true rfl) (Nat.le_of_ble_eq_true rfl) rfl (sp_within _ _ _ _ _) ?_
  exact ar_ret rfl (bi_ret _) ⟨rfl, rfl⟩
theorem ix_60 {k : Int32} (c : wi k (-60) 60 = true) : ¬ (k + 60) < 0 ∧ (k + 60).toNatClampNeg < 121 := by
  have h := wi_to c
  have l1 : ((-60 : Int32)).toInt = -60 := by decide
  have l2 : ((60 : Int32)).toInt = 60 := by decide
  have l0 : ((0 : Int32)).toInt = 0 := by decide
  have l3 : ((120 : Int32)).toInt = 120 := by decide
  have e : (k + 60).toInt = k.toInt + 60 := by
    rw [Int32.toInt_add, l2]
    unfold Int.bmod
    simp only []
    split <;> omega
  refine wi_ix (hi := 120) (m := 121) ?_ (by decide)
  unfold wi
  rw [decide_eq_true (Int32.le_iff_toInt_le.mpr (by omega)), decide_eq_true (Int32.le_iff_toInt_le.mpr (by omega))]
  rfl
variable {h : aH} {a q : Nat} {fs : List aV} {ps : List Int32}
theorem sp_setPass {k v : Int32} (ha : h[a]? = some (.inl (2, fs))) (h10 : fs[10]? = some (.inr (.inr (some q)))) (hq : h[q]? = some (.inr (0, .inl ps))) (hp : ps.length = 121) : aCall Mt (d + 3) 21 [.inr (.inr (some a)), .inl k, .inl v] h 0 0 (fun r h' => r = none ∧ ∃ ps' : List Int32, ps'.length = 121 ∧ h' = h.set q (.inr (0, .inl ps'))) := by
  refine ac_ink [some (.inr (.inr (some a))), some (.inl k), some (.inl v)] mt_21 (Nat.le_of_ble_eq_true rfl) rfl ?_
  refine ar_ldI rfl rfl ?_
  refine ar_callv rfl rfl (Nat.le_of_ble_eq_true rfl) (Nat.le_of_ble_eq_true rfl) rfl (sp_isRet _ _) ?_
  refine ar_eqB rfl (fun c => ?_) (fun c => ?_)
  · exact ar_ret0 rfl ⟨rfl, ps, hp, (set_same hq).symm⟩
  · refine ar_ldA rfl rfl ?_
    refine ar_get rfl ha h10 ?_
    refine ar_ldI rfl rfl ?_
    refine ar_push rfl ?_
    refine ar_bin rfl ?_
    refine ar_ldI rfl rfl ?_
    refine ar_ast rfl hq (ix_60 c).1 (by rw [hp]; exact (ix_60 c).2) ?_
    exact ar_ret0 rfl ⟨rfl, _, by rw [List.length_set]; exact hp, rfl⟩
theorem get_of {α : Type} {xs : List α} {i : Nat} (hi : i < xs.length) : xs[i]? = some xs[i] := List.getElem?_eq_getElem hi
theorem sp_passOf {k p : Int32} (ha : h[a]? = some (.inl (2, fs))) (h0 : fs[0]? = some (.inl p)) (h10 : fs[10]? = some (.inr (.inr (some q)))) (hq : h[q]? = some (.inr (0, .inl ps))) (hp : ps.length = 121) : aCall Mt (d + 3) 20 [.inr (.inr (some a)), .inl k] h 0 0 (fun r h' => (∃ x, r = some (.inl x)) ∧ h' = h) := by
  refine ac_ink [some (.inr (.inr (some a))), some (.inl k)] mt_20 (Nat.le_of_ble_eq_true rfl) rfl ?_
  refine ar_ldI rfl rfl ?_
  refine ar_callv rfl rfl (Nat.le_of_ble_eq_true rfl) (Nat.le_of_ble_eq_true rfl) rfl (sp_isRet _ _) ?_
  refine ar_eqB rfl (fun c => ?_) (fun c => ?_)
  · refine ar_ldA rfl rfl ?_
    refine ar_get rfl ha h0 ?_
    exact ar_ret rfl rfl ⟨⟨_, rfl⟩, rfl⟩
  · refine ar_ldA rfl rfl ?_
    refine ar_get rfl ha h10 ?_
    refine ar_ldI rfl rfl ?_
    refine ar_push rfl ?_
    refine ar_bin rfl ?_
    refine ar_ald rfl hq (ix_60 c).1 (get_of (by rw [hp]; exact (ix_60 c).2)) ?_
    refine ar_go rfl ?_
    exact ar_ret rfl rfl ⟨⟨_, rfl⟩, rfl⟩
variable {b : Nat} {gs : List aV}
theorem sp_all0 (hb : h[b]? = some (.inl (6, gs))) (g2 : gs[2]? = some (.inl 0)) : aCall Mt (d + 1) 61 [.inr (.inr (some b))] h 0 0 (fun r h' => r = some (.inl 0) ∧ h' = h) := by
  refine ac_ink [some (.inr (.inr (some b)))] mt_61 (Nat.le_of_ble_eq_true rfl) rfl ?_
  refine ar_push rfl ?_
  refine ar_ldA rfl rfl ?_
  refine ar_get rfl hb g2 ?_
  refine ar_bink (z := 1) rfl (by decide) ?_
  refine ar_push rfl ?_
  refine ar_bink (z := 0) rfl (by decide) ?_
  exact ar_ret rfl rfl ⟨rfl, rfl⟩
theorem sp_pull0 {x y : Int32} (hb : h[b]? = some (.inl (6, gs))) (g2 : gs[2]? = some (.inl 0)) : aCall Mt (d + 1) 70 [.inr (.inr (some b)), .inl x, .inl y] h 0 0 (fun r h' => r = some (.inl 0) ∧ h' = h) := by
  refine ac_ink [some (.inr (.inr (some b))), some (.inl x), some (.inl y), none, none, none] mt_70 (Nat.le_of_ble_eq_true rfl) rfl ?_
  refine ar_push rfl ?_
  refine ar_svIk [some (.inr (.inr (some b))), some (.inl x), some (.inl y), some (.inl 0), none, none] rfl rfl ?_
  refine ar_push rfl ?_
  refine ar_svIk [some (.inr (.inr (some b))), some (.inl x), some (.inl y), some (.inl 0), some (.inl 0), none] rfl rfl ?_
  refine ar_ldI rfl rfl ?_
  refine ar_ldA rfl rfl ?_
  refine ar_get rfl hb g2 ?_
  refine ar_if2t rfl (by decide) ?_
  refine ar_ldI rfl rfl ?_
  exact ar_ret rfl rfl ⟨rfl, rfl⟩
theorem sp_sign0 {x : Int32} (hb : h[b]? = some (.inl (6, gs))) (g2 : gs[2]? = some (.inl 0)) : aCall Mt (d + 1) 69 [.inr (.inr (some b)), .inl x] h 0 0 (fun r h' => r = some (.inl 0) ∧ h' = h) := by
  refine ac_ink [some (.inr (.inr (some b))), some (.inl x), none, none] mt_69 (Nat.le_of_ble_eq_true rfl) rfl ?_
  refine ar_push rfl ?_
  refine ar_svIk [some (.inr (.inr (some b))), some (.inl x), some (.inl 0), none] rfl rfl ?_
  refine ar_push rfl ?_
  refine ar_svIk [some (.inr (.inr (some b))), some (.inl x), some (.inl 0), some (.inl 0)] rfl rfl ?_
  refine ar_ldI rfl rfl ?_
  refine ar_ldA rfl rfl ?_
  refine ar_get rfl hb g2 ?_
  refine ar_if2t rfl (by decide) ?_
  refine ar_ldI rfl rfl ?_
  exact ar_ret rfl rfl ⟨rfl, rfl⟩
/-- from the end of the one turn of passAhead's loop -/
theorem pa_end {x y z : Int32} {t : Option aV} (hb : h[b]? = some (.inl (6, gs))) (g2 : gs[2]? = some (.inl 0)) : aRun oX6_passAhead (aCall Mt (d + 1)) (fun r h' => (∃ x, r = some (.inl x)) ∧ h' = h) 68 ([some (.inr (.inr (some b))), some (.inl x), some (.inl y), some (.inl z), some (.inl 0), t], [], h, kc, ks) := by
  refine ar_incl (z := 1) [_, _, _, _, some (.inl _), _] rfl rfl (by decide) rfl ?_
  refine ar_go rfl ?_
  refine ar_ldI rfl rfl ?_
  refine ar_ldA rfl rfl ?_
  refine ar_call rfl rfl (Nat.le_of_ble_eq_true rfl) (Nat.le_of_ble_eq_true rfl) (rcv_of hb) (Nat.zero_le _) (Nat.zero_le _) (sp_all0 hb g2) (fun v h9 e => ?_)
  obtain ⟨rfl, rfl⟩ := e
  refine ar_if2t rfl (by decide) ?_
  refine ar_ldI rfl rfl ?_
  refine ar_push rfl ?_
  refine ar_if2 rfl (fun c => ?_) (fun c => ?_)
  · refine ar_ldI rfl rfl ?_
    exact ar_ret rfl rfl ⟨⟨_, rfl⟩, rfl⟩
  · refine ar_ldI rfl rfl ?_
    refine ar_ldI rfl rfl ?_
    refine ar_bin rfl ?_
    refine ar_go rfl ?_
    exact ar_ret rfl rfl ⟨⟨_, rfl⟩, rfl⟩
theorem sp_ahead0 {x y : Int32} (hb : h[b]? = some (.inl (6, gs))) (g2 : gs[2]? = some (.inl 0)) : aCall Mt (d + 2) 68 [.inr (.inr (some b)), .inl x, .inl y] h 0 0 (fun r h' => (∃ x, r = some (.inl x)) ∧ h' = h) := by
  refine ac_ink [some (.inr (.inr (some b))), some (.inl x), some (.inl y), none, none, none] mt_68 (Nat.le_of_ble_eq_true rfl) rfl ?_
  refine ar_push rfl ?_
  refine ar_svIk [some (.inr (.inr (some b))), some (.inl x), some (.inl y), some (.inl (-1)), none, none] rfl rfl ?_
  refine ar_push rfl ?_
  refine ar_svIk [some (.inr (.inr (some b))), some (.inl x), some (.inl y), some (.inl (-1)), some (.inl 0), none] rfl rfl ?_
  refine ar_ldI rfl rfl ?_
  refine ar_ldA rfl rfl ?_
  refine ar_call rfl rfl (Nat.le_of_ble_eq_true rfl) (Nat.le_of_ble_eq_true rfl) (rcv_of hb) (Nat.zero_le _) (Nat.zero_le _) (sp_all0 hb g2) (fun v h9 e => ?_)
  obtain ⟨rfl, rfl⟩ := e
  refine ar_if2f rfl (by decide) ?_
  refine ar_ldI rfl rfl ?_
  refine ar_ldI rfl rfl ?_
  refine ar_bin rfl ?_
  refine ar_ldA rfl rfl ?_
  refine ar_ldI rfl rfl ?_
  refine ar_call rfl rfl (Nat.le_of_ble_eq_true rfl) (Nat.le_of_ble_eq_true rfl) (rcv_of hb) (Nat.zero_le _) (Nat.zero_le _) (sp_sign0 hb g2) (fun v h9 e => ?_)
  obtain ⟨rfl, rfl⟩ := e
  refine ar_bin rfl ?_
  refine ar_svIk [some (.inr (.inr (some b))), some (.inl x), some (.inl y), some (.inl (-1)), some (.inl 0), some (.inl _)] rfl rfl ?_
  refine ar_ldI rfl rfl ?_
  refine ar_if1 rfl (fun c => ?_) (fun c => ?_)
  · exact pa_end hb g2
  refine ar_ldI rfl rfl ?_
  refine ar_ldI rfl rfl ?_
  refine ar_if2 rfl (fun c => ?_) (fun c => ?_)
  · exact pa_end hb g2
  refine ar_ldI rfl rfl ?_
  refine ar_ldI rfl rfl ?_
  refine ar_if2 rfl (fun c => ?_) (fun c => ?_)
  · refine ar_ldI rfl rfl ?_
    refine ar_ldI rfl rfl ?_
    refine ar_bin rfl ?_
    refine ar_ldA rfl rfl ?_
    refine ar_ldI rfl rfl ?_
    refine ar_ldA rfl rfl ?_
    refine ar_call rfl rfl (Nat.le_of_ble_eq_true rfl) (Nat.le_of_ble_eq_true rfl) (rcv_of hb) (Nat.zero_le _) (Nat.zero_le _) (sp_all0 hb g2) (fun v h9 e => ?_)
    obtain ⟨rfl, rfl⟩ := e
    refine ar_call rfl rfl (Nat.le_of_ble_eq_true rfl) (Nat.le_of_ble_eq_true rfl) (rcv_of hb) (Nat.zero_le _) (Nat.zero_le _) (sp_pull0 hb g2) (fun v h9 e => ?_)
    obtain ⟨rfl, rfl⟩ := e
    refine ar_bin rfl ?_
    refine ar_ldI rfl rfl ?_
    refine ar_if2 rfl (fun c => ?_) (fun c => ?_)
    · exact pa_end hb g2
    · refine ar_ldI rfl rfl ?_
      refine ar_svIk [some (.inr (.inr (some b))), some (.inl x), some (.inl y), some (.inl _), some (.inl 0), some (.inl _)] rfl rfl ?_
      exact pa_end hb g2
  · refine ar_go rfl ?_
    exact pa_end hb g2
end P1K
