/-! THE SKY of the reference; printed by program but for its head -/
section SKY6
noncomputable def NMh (h : aH) (sp : Int) : Int → Int := nxF (gI h 70) (gI h 71) (fI h 1) sp
/-- the passes of a comet as the reference lays them -/
def rwM (h : aH) (c k : Int) : Int := gI h 80 (121 * c + 60 + k)
def CMm (h : aH) (c : Int) : Prop := CMr c (gI h 72 c) (gI h 73 c) (gI h 74 c) (gI h 75 c) (gI h 76 c) (gI h 77 c) (gI h 78 c)
/-- the sky of the reference: what is kept of returns is right -/
def SKm (h : aH) : Prop := RPm h ∧ (∀ c : Int, 0 ≤ c → c < fI h 4 → CMm h c ∧ (gI h 81 c ≠ 0 → isRet (NMh h (gI h 73 c)) (gI h 73 c) (gI h 72 c) (rwM h c))) ∧ ∀ c : Int, fI h 4 ≤ c → c ≤ 11 → gI h 81 c = 0
theorem am_l {h : aH} {a kd n : Nat} (hO : OK h) (ha : a < 114) (ht : T0.getD a (999, 0) = (kd, n)) (hk : kd < 4) : (arI h a).length = n := by
  obtain ⟨x, hc, hn, hs⟩ := hO.arr (hO.fix a ha ht) (by omega)
  rcases (show kd = 0 ∨ kd = 1 ∨ kd = 2 ∨ kd = 3 by omega) with q | q | q | q <;> subst q <;> obtain ⟨xs, rfl, -⟩ : ∃ xs, x = .inl xs ∧ _ := hs <;> rw [arI_of hc] <;> exact hn
theorem nxM_un {W : List Nat} {h h' : aH} (hO : OK h) (hO' : OK h') (g : un W h h') (h2 : 70 ∉ W) (h3 : 71 ∉ W) (h4 : 7901 ∉ W) (sp : Int) : nxF (gI h' 70) (gI h' 71) (fI h' 1) sp = nxF (gI h 70) (gI h 71) (fI h 1) sp := by
  have e2 : gI h' 70 = gI h 70 := funext fun j => gI_keep (a := 70) (kd := 0) (n := 4) hO g j (by decide) rfl (by decide) rfl (by decide) h2
  have e3 : gI h' 71 = gI h 71 := funext fun j => gI_keep (a := 71) (kd := 0) (n := 4) hO g j (by decide) rfl (by decide) rfl (by decide) h3
  rw [e2, e3, fI_keep (k := 1) hO hO' g rfl h4]
theorem RPm.un {W : List Nat} {h h' : aH} (p : RPm h) (hO : OK h) (hO' : OK h') (g : un W h h') (h2 : 70 ∉ W) (h3 : 71 ∉ W) (h4 : 7901 ∉ W) : RPm h' := fun i i0 i1 => by
  rw [fI_keep (k := 1) hO hO' g rfl h4] at i1
  rw [gI_keep (a := 70) (kd := 0) (n := 4) hO g i (by decide) rfl (by decide) rfl (by decide) h2, gI_keep (a := 71) (kd := 0) (n := 4) hO g i (by decide) rfl (by decide) rfl (by decide) h3]
  exact p i i0 i1
def smK : List Nat := [70, 71, 72, 73, 74, 75, 76, 77, 78, 80, 81, 7901, 7904]
theorem SKm.un {W : List Nat} {h h' : aH} (g : SKm h) (hO : OK h) (hO' : OK h') (u : un W h h') (hw : ∀ k ∈ smK, k ∉ W) : SKm h' := by
  have m : ∀ k, k ∈ smK → k ∉ W := hw
  have n := fI_keep (k := 4) hO hO' u rfl (m 7904 (by decide))
  have k0 : ∀ a, T0.getD a (999, 0) = (0, 12) → a < 114 → scA a = false → a ∉ W → gI h' a = gI h a := fun a t l s w => funext fun j => gI_keep (a := a) (kd := 0) (n := 12) hO u j l t (by decide) s (by decide) w
  have e80 : gI h' 80 = gI h 80 := funext fun j => gI_keep (a := 80) (kd := 0) (n := 1452) hO u j (by decide) rfl (by decide) rfl (by decide) (m 80 (by decide))
  have e81 : gI h' 81 = gI h 81 := funext fun j => gI_keep (a := 81) (kd := 3) (n := 12) hO u j (by decide) rfl (by decide) rfl (by decide) (m 81 (by decide))
  have er : ∀ c, rwM h' c = rwM h c := fun c => funext fun k => by
    unfold rwM
    rw [e80]
  obtain ⟨g1, g2, g3⟩ := g
  refine ⟨g1.un hO hO' u (m 70 (by decide)) (m 71 (by decide)) (m 7901 (by decide)), fun c c0 c1 => ?_, fun c c0 c1 => ?_⟩
  · rw [n] at c1
    have q := g2 c c0 c1
    unfold CMm at q ⊢
    rw [k0 72 rfl (by decide) rfl (m 72 (by decide)), k0 73 rfl (by decide) rfl (m 73 (by decide)), k0 74 rfl (by decide) rfl (m 74 (by decide)), k0 75 rfl (by decide) rfl (m 75 (by decide)), k0 76 rfl (by decide) rfl (m 76 (by decide)), k0 77 rfl (by decide) rfl (m 77 (by decide)), k0 78 rfl (by decide) rfl (m 78 (by decide)), e81, er, show NMh h' (gI h 73 c) = NMh h (gI h 73 c) from nxM_un hO hO' u (m 70 (by decide)) (m 71 (by decide)) (m 7901 (by decide)) _]
    exact q
  · rw [n] at c0
    rw [e81]
    exact g3 c c0 c1
/-- a step behind, a step ahead -/
theorem mk_f {h1 h2 : aH} {nx : Int → Int} {m k k' p t : Int} {i y : Int32} (hl : (arI h1 80).length = 1452) (w : arI h2 80 = (arI h1 80).set i.toInt.toNat y) (hi : i.toInt = m + k) (hm : 60 ≤ m ∧ m + 60 ≤ 1451) (hk : 1 ≤ k ∧ k ≤ 60) (px : FWr nx (fun j => gI h1 80 (m + j)) p (k - 1) ∧ gI h1 80 (m + (k - 1)) = t) (q : (0 ≤ t → y.toInt = dyF (nx t)) ∧ (t < 0 → y.toInt = -1)) (e : k' = k + 1) : FWr nx (fun j => gI h2 80 (m + j)) p (k' - 1) ∧ gI h2 80 (m + (k' - 1)) = y.toInt := by
  have v : gI h2 80 (m + (k - 1 + 1)) = y.toInt := (gI_sq (j := m + (k - 1 + 1)) hl w (by omega) (by omega)).1 (by omega)
  obtain ⟨p1, p2⟩ := px
  refine ⟨FWr_s (m := k - 1) p1 (by omega) (fun j j0 j1 => (gI_sq hl w (by omega) (by omega)).2 (by omega)) (v := y.toInt) v ?_ (by omega), ?_⟩
  · show (0 ≤ gI h1 80 (m + (k - 1)) → y.toInt = dyF (nx (gI h1 80 (m + (k - 1))))) ∧ (gI h1 80 (m + (k - 1)) < 0 → y.toInt = -1)
    rw [p2]
    exact q
  · rw [← v]
    exact congrArg _ (by omega)
theorem mk_b {h1 h2 : aH} {nx : Int → Int} {m k k' sp t : Int} {i y : Int32} (hl : (arI h1 80).length = 1452) (w : arI h2 80 = (arI h1 80).set i.toInt.toNat y) (hi : i.toInt = m - k) (hm : 60 ≤ m ∧ m + 60 ≤ 1451) (hk : 1 ≤ k ∧ k ≤ 60) (px : BWr nx sp (fun j => gI h1 80 (m + j)) (k - 1) ∧ gI h1 80 (m - (k - 1)) = t) (q : (0 ≤ t → ∃ x, PAr nx t (t - sp) x ∧ y.toInt = dyF x) ∧ (t < 0 → y.toInt = -1)) (e : k' = k + 1) : BWr nx sp (fun j => gI h2 80 (m + j)) (k' - 1) ∧ gI h2 80 (m - (k' - 1)) = y.toInt := by
  have v : gI h2 80 (m + -(k - 1 + 1)) = y.toInt := (gI_sq (j := m + -(k - 1 + 1)) hl w (by omega) (by omega)).1 (by omega)
  obtain ⟨p1, p2⟩ := px
  have p2' : gI h1 80 (m + -(k - 1)) = t := by
    rw [← p2]
    exact congrArg _ (by omega)
  refine ⟨BWr_s (m := k - 1) p1 (by omega) (fun j j0 j1 => (gI_sq hl w (by omega) (by omega)).2 (by omega)) (v := y.toInt) v ?_ (by omega), ?_⟩
  · show (0 ≤ gI h1 80 (m + -(k - 1)) → ∃ x, PAr nx (gI h1 80 (m + -(k - 1))) (gI h1 80 (m + -(k - 1)) - sp) x ∧ y.toInt = dyF x) ∧ (gI h1 80 (m + -(k - 1)) < 0 → y.toInt = -1)
    rw [p2']
    exact q
  · rw [← v]
    exact congrArg _ (by omega)
/-- the middle's side that isn't written stays -/
theorem mk_k {h1 h2 : aH} {nx : Int → Int} {m k p : Int} {i y : Int32} (hl : (arI h1 80).length = 1452) (w : arI h2 80 = (arI h1 80).set i.toInt.toNat y) (hi : i.toInt = m - k) (hm : 60 ≤ m ∧ m + 60 ≤ 1451) (hk : 1 ≤ k ∧ k ≤ 60) (px : FWr nx (fun j => gI h1 80 (m + j)) p 60) : FWr nx (fun j => gI h2 80 (m + j)) p 60 := FWr_c px (fun j j0 j1 => (gI_sq hl w (by omega) (by omega)).2 (by omega)) (by omega) (fun j j0 j1 q => rfl)
theorem mk_0 {h1 h2 : aH} {nx : Int → Int} {m p k : Int} {i y : Int32} (hl : (arI h1 80).length = 1452) (w : arI h2 80 = (arI h1 80).set i.toInt.toNat y) (hi : i.toInt = m) (hm : 60 ≤ m ∧ m + 60 ≤ 1451) (hy : y.toInt = p) (e : k = 1) : FWr nx (fun j => gI h2 80 (m + j)) p (k - 1) ∧ gI h2 80 (m + (k - 1)) = p := by
  have v : gI h2 80 m = p := hy ▸ (gI_sq (j := m) hl w (by omega) (by omega)).1 (by omega)
  subst e
  refine ⟨FWr_0 ?_ (by omega), ?_⟩
  · show gI h2 80 (m + 0) = p
    rw [Int.add_zero]
    exact v
  · rw [show m + (1 - 1) = m by omega]
    exact v
/-- beside one row nothing is written -/
def O80 (h0 h : aH) (m : Int) : Prop := (∀ b : Nat, b ≠ 80 → b ≠ 81 → h[b]? = h0[b]?) ∧ ∀ j : Int, 0 ≤ j → (j < m - 60 ∨ m + 60 < j) → gI h 80 j = gI h0 80 j
theorem O80.w {h0 h1 h2 : aH} {m : Int} {i y : Int32} (g : O80 h0 h1 m) (hl : (arI h1 80).length = 1452) (w : wI h1 h2 80 ((arI h1 80).set i.toInt.toNat y)) (hi : m - 60 ≤ i.toInt ∧ i.toInt ≤ m + 60) (hm : 60 ≤ m ∧ m + 60 ≤ 1451) : O80 h0 h2 m := ⟨fun b b0 b1 => (w.2 b b0).trans (g.1 b b0 b1), fun j j0 q => ((gI_sq hl w.1 (by omega) j0).2 (by omega)).trans (g.2 j j0 q)⟩
theorem SKm.row {h h' : aH} {c : Int} (g : SKm h) (hc : 0 ≤ c ∧ c < fI h 4 ∧ c ≤ 11) (o : O80 h h' (121 * c + 60)) (e81 : arI h' 81 = (arI h 81).set c.toNat 1) (l81 : (arI h 81).length = 12) (f : FWr (NMh h (gI h 73 c)) (fun j => gI h' 80 (121 * c + 60 + j)) (gI h 72 c) 60) (b : BWr (NMh h (gI h 73 c)) (gI h 73 c) (fun j => gI h' 80 (121 * c + 60 + j)) 60) : SKm h' ∧ gI h' 81 c ≠ 0 := by
  have k : ∀ b : Nat, b ≠ 80 → b ≠ 81 → gI h' b = gI h b := fun b b0 b1 => gI_f (o.1 b b0 b1)
  have n : ∀ q, fI h' q = fI h q := fun q => by
    unfold fI
    rw [o.1 69 (by decide) (by decide)]
  have nx : ∀ sp, NMh h' sp = NMh h sp := fun sp => by
    unfold NMh
    rw [k 70 (by decide) (by decide), k 71 (by decide) (by decide), n]
  have s := fun j (j0 : 0 ≤ j) => gI_sq (j := j) l81 e81 (by omega) j0
  have own : gI h' 81 c ≠ 0 := by
    rw [(s c hc.1).1 (by omega)]
    decide
  obtain ⟨g1, g2, g3⟩ := g
  refine ⟨⟨fun j j0 j1 => ?_, fun d d0 d1 => ?_, fun d d0 d1 => ?_⟩, own⟩
  · rw [n] at j1
    rw [k 70 (by decide) (by decide), k 71 (by decide) (by decide)]
    exact g1 j j0 j1
  · rw [n] at d1
    have q := g2 d d0 d1
    unfold CMm at q ⊢
    rw [k 72 (by decide) (by decide), k 73 (by decide) (by decide), k 74 (by decide) (by decide), k 75 (by decide) (by decide), k 76 (by decide) (by decide), k 77 (by decide) (by decide), k 78 (by decide) (by decide), nx]
    refine ⟨q.1, fun z => ?_⟩
    by_cases e : d = c
    · subst e
      exact ⟨f, b⟩
    · rw [(s d d0).2 (by omega)] at z
      have r := q.2 z
      have el : ∀ t : Int, -60 ≤ t → t ≤ 60 → rwM h' d t = rwM h d t := fun t t0 t1 => o.2 _ (by omega) (by omega)
      refine ⟨FWr_c r.1 (fun t t0 t1 => el t (by omega) t1) (by omega) (fun t t0 t1 q => rfl), fun t t0 t1 => ?_⟩
      have u := r.2 t t0 t1
      rw [el (-t) (by omega) (by omega), el (-(t + 1)) (by omega) (by omega)]
      exact u
  · rw [n] at d0
    rw [(s d (by omega)).2 (by omega)]
    exact g3 d d0 d1
/-- the pass of a return, whoever reckons it -/
def retV (nx : Int → Int) (sp p k x : Int) : Prop := ∃ f, isRet nx sp p f ∧ f k = x
theorem retV_u {nx : Int → Int} {sp p k x : Int} {g : Int → Int} {lo hi : Int} (r : retV nx sp p k x) (e : isRe nx sp p g lo hi) (hk : -60 ≤ k ∧ k ≤ 60) : x = g k := by
  obtain ⟨f, h1, h2⟩ := r
  rw [← h2]
  exact isRet_u h1 e.1 k hk.1 hk.2
set_option maxRecDepth 20000 in
set_option maxHeartbeats 4000000 in
theorem sd_X12_findPasses {d kc ks : Nat} {h0 : aH} {Q : Option aV → aH → Prop} (hO0 : OK h0) (hX0 : SX h0) (a1 : Int32) (b1 : 0 ≤ a1.toInt ∧ a1.toInt ≤ 11) (pre0 : SKm h0) (pre1 : a1.toInt < fI h0 4) (hQ : ∀ r h', (r = none) → OK h' → un [80, 81] h0 h' → (SKm h') → (gI h' 81 a1.toInt ≠ 0) → Q r h') : uCall Mt (d + 3) 199 [(.inr (.inr (some 69))), (.inl a1)] h0 kc ks Q := by
  have l_m1 : ((-1) : Int32).toInt = -1 := by decide
  have l_0 : ((0) : Int32).toInt = 0 := by decide
  have l_1 : ((1) : Int32).toInt = 1 := by decide
  have l_60 : ((60) : Int32).toInt = 60 := by decide
  have l_121 : ((121) : Int32).toInt = 121 := by decide
  have l_999999 : ((999999) : Int32).toInt = 999999 := by decide
  refine uc_ink [some (.inr (.inr (some 69))), some (.inl a1), none, none, none] mt_199 (Nat.le_of_ble_eq_true rfl) rfl ?_
  obtain ⟨fs1, hc2⟩ := hO0.mod
  obtain ⟨f3, p4, t5⟩ := mf_4 hO0 hc2
  have t6 := fI_of hc2 p4
  have r7 := (pre0.2.1 a1.toInt (by omega) (by omega)).1
  unfold CMm CMr at r7
  refine ur_ldA rfl rfl ?_
  refine ur_get rfl hc2 (mf_14 hO0 hc2) ?_
  refine ur_ldI rfl rfl ?_
  obtain ⟨xs9, hc8, hn10, he11⟩ := hO0.boo (hO0.fix 81 (by decide) rfl)
  refine ur_aldV rfl hc8 hn10 (by omega) (fun x12 hx13 => ?_)
  have t14 := gI_of (j := a1) hc8 hx13
  refine ur_if1 rfl (fun c15 => ?_) (fun c15 => ?_)
  · have t16 := eq_to c15
    refine ur_ldA rfl rfl ?_
    refine ur_get rfl hc2 (mf_14 hO0 hc2) ?_
    refine ur_ldI rfl rfl ?_
    refine ur_push rfl ?_
    refine ur_astV (W := [81]) (m := 12) rfl hO0 hc8 (by decide) hn10 (by omega) (any_r _) (Or.inr (Or.inr (wid_fix (by decide) (by decide)))) (fun h19 hO19 hv19 d17 hc18 => ?_)
    have hu19 : un [80, 81] h0 h19 := hv19.mono (by decide)
    have w20 : wI h0 h19 81 ((arI h0 81).set (a1 : Int32).toInt.toNat 1) := ⟨by rw [arI_of hc18, arI_of hc8, nb_1], d17⟩
    refine ur_push rfl ?_
    refine ur_ldI rfl rfl ?_
    refine ur_binV rfl (fun x21 e22 => ?_)
    have z23 := any_r a1
    have t24 := ti_mulR e22 l_121 (by omega) (by omega)
    refine ur_push rfl ?_
    refine ur_binV rfl (fun x25 e26 => ?_)
    have z27 := any_r x21
    have t28 := ti_add e26 (by omega) (by omega)
    refine ur_svIk [some (.inr (.inr (some 69))), some (.inl a1), some (.inl x25), none, none] rfl rfl ?_
    refine ur_ldA rfl rfl ?_
    refine ur_get rfl ((d17 _ (by decide)).trans hc2) (mf_13 hO19 ((d17 _ (by decide)).trans hc2)) ?_
    refine ur_ldI rfl rfl ?_
    refine ur_ldA rfl rfl ?_
    refine ur_get rfl ((d17 _ (by decide)).trans hc2) (mf_5 hO19 ((d17 _ (by decide)).trans hc2)) ?_
    refine ur_ldI rfl rfl ?_
    obtain ⟨xs30, hc29, hn31, he32⟩ := hO19.int (hO19.fix 72 (by decide) rfl)
    refine ur_aldV rfl hc29 hn31 (by omega) (fun x33 hx34 => ?_)
    have t35 := gI_of (j := a1) hc29 hx34
    have t36 : 0 ≤ x33.toInt ∧ x33.toInt ≤ 999999 := he32 _ _ hx34
    have t37 : gI h19 72 a1.toInt = gI h0 72 a1.toInt := gI_keep (a := 72) (kd := 0) (n := 12) hO0 hu19 _ (by decide) rfl (by decide) rfl (by decide) (by decide)
    have t38 : gI h19 73 a1.toInt = gI h0 73 a1.toInt := gI_keep (a := 73) (kd := 0) (n := 12) hO0 hu19 _ (by decide) rfl (by decide) rfl (by decide) (by decide)
    have t39 := fI_of ((d17 _ (by decide)).trans hc2) p4
    obtain ⟨xs41, hc40, hn42, he43⟩ := hO19.int (hO19.fix 80 (by decide) rfl)
    refine ur_astV (W := [80]) (m := 1452) rfl hO19 hc40 (by decide) hn42 (by omega) (by show -1 ≤ x33.toInt ∧ x33.toInt ≤ 999999; omega) (Or.inr (Or.inr (wid_fix (by decide) (by decide)))) (fun h46 hO46 hv46 d44 hc45 => ?_)
    have hu46 : un [80, 81] h19 h46 := hv46.mono (by decide)
    have w47 : wI h19 h46 80 ((arI h19 80).set (x25 : Int32).toInt.toNat x33) := ⟨by rw [arI_of hc45, arI_of hc40], d44⟩
    refine ur_ldA rfl rfl ?_
    refine ur_get rfl ((d44 _ (by decide)).trans ((d17 _ (by decide)).trans hc2)) (mf_5 hO46 ((d44 _ (by decide)).trans ((d17 _ (by decide)).trans hc2))) ?_
    refine ur_ldI rfl rfl ?_
    refine ur_aldV rfl ((d44 _ (by decide)).trans hc29) hn31 (by omega) (fun x48 hx49 => ?_)
    obtain rfl : x33 = x48 := Option.some.inj (hx34.symm.trans hx49)
    refine ur_svIk [some (.inr (.inr (some 69))), some (.inl a1), some (.inl x25), some (.inl x33), none] rfl rfl ?_
    refine ur_push rfl ?_
    refine ur_svIk [some (.inr (.inr (some 69))), some (.inl a1), some (.inl x25), some (.inl x33), some (.inl 1)] rfl rfl ?_
    have t55 := fI_of ((d44 _ (by decide)).trans ((d17 _ (by decide)).trans hc2)) p4
    have L52 : ∀ (m53 : Nat) (x50 : Int32) (x51 : Int32) (h56 : aH) , OK h56 → un [80, 81] h46 h56 → ((-1 ≤ x50.toInt ∧ x50.toInt ≤ 999999) ∧ (1 ≤ x51.toInt ∧ x51.toInt ≤ 61) ∧ fI h56 4 = fI h0 4) → (O80 h0 h56 (121 * a1.toInt + 60) ∧ arI h56 81 = (arI h0 81).set a1.toInt.toNat 1) → (FWr (NMh h0 (gI h0 73 a1.toInt)) (fun j => gI h56 80 ((121 * a1.toInt + 60) + j)) (gI h0 72 a1.toInt) (x51.toInt - 1) ∧ gI h56 80 ((121 * a1.toInt + 60) + (x51.toInt - 1)) = x50.toInt) → ((62 - x51.toInt).toNat) < m53 → uRun oX12_findPasses (uCall Mt (d + 2)) Q 47 ([some (.inr (.inr (some 69))), some (.inl a1), some (.inl x25), some (.inl x50), some (.inl x51)], [], h56, kc, ks) := by
      intro m53
      induction m53 with
      | zero => intro x50 x51 h56 hO56 hu56 iv59 px57 px58 mm60; omega
      | succ m53 ih54 =>
        intro x50 x51 h56 hO56 hu56 iv59 px57 px58 mm60
        obtain ⟨fs61, hc62⟩ := hO56.mod
        obtain ⟨f63, p64, t65⟩ := mf_4 hO56 hc62
        have t66 := fI_of hc62 p64
        refine ur_ldI rfl rfl ?_
        refine ur_push rfl ?_
        refine ur_if2 rfl (fun c67 => ?_) (fun c67 => ?_)
        · have t68 := lt_to c67
          refine ur_ldA rfl rfl ?_
          refine ur_get rfl hc62 (mf_5 hO56 hc62) ?_
          refine ur_ldI rfl rfl ?_
          refine ur_aldV rfl (hu56.ka (n := 12) ((d44 _ (by decide)).trans hc29) hn31 rfl (by decide) (wid_f (by decide)) (by decide)) hn31 (by omega) (fun x69 hx70 => ?_)
          obtain rfl : x33 = x69 := Option.some.inj (hx34.symm.trans hx70)
          have t71 : gI h56 72 a1.toInt = gI h0 72 a1.toInt := gI_keep (a := 72) (kd := 0) (n := 12) hO0 (hu19.tr (hu46.tr hu56)) _ (by decide) rfl (by decide) rfl (by decide) (by decide)
          have t72 : gI h56 73 a1.toInt = gI h0 73 a1.toInt := gI_keep (a := 73) (kd := 0) (n := 12) hO0 (hu19.tr (hu46.tr hu56)) _ (by decide) rfl (by decide) rfl (by decide) (by decide)
          refine ur_svIk [some (.inr (.inr (some 69))), some (.inl a1), some (.inl x25), some (.inl x33), some (.inl x51)] rfl rfl ?_
          refine ur_push rfl ?_
          refine ur_svIk [some (.inr (.inr (some 69))), some (.inl a1), some (.inl x25), some (.inl x33), some (.inl 1)] rfl rfl ?_
          have L75 : ∀ (m76 : Nat) (x73 : Int32) (x74 : Int32) (h78 : aH) , OK h78 → un [80, 81] h56 h78 → ((-1 ≤ x73.toInt ∧ x73.toInt ≤ 999999) ∧ (1 ≤ x74.toInt ∧ x74.toInt ≤ 61) ∧ fI h78 4 = fI h0 4) → (O80 h0 h78 (121 * a1.toInt + 60) ∧ arI h78 81 = (arI h0 81).set a1.toInt.toNat 1) → (FWr (NMh h0 (gI h0 73 a1.toInt)) (fun j => gI h78 80 ((121 * a1.toInt + 60) + j)) (gI h0 72 a1.toInt) 60) → (BWr (NMh h0 (gI h0 73 a1.toInt)) (gI h0 73 a1.toInt) (fun j => gI h78 80 ((121 * a1.toInt + 60) + j)) (x74.toInt - 1) ∧ gI h78 80 ((121 * a1.toInt + 60) - (x74.toInt - 1)) = x73.toInt) → ((62 - x74.toInt).toNat) < m76 → uRun oX12_findPasses (uCall Mt (d + 2)) Q 109 ([some (.inr (.inr (some 69))), some (.inl a1), some (.inl x25), some (.inl x73), some (.inl x74)], [], h78, kc, ks) := by
            intro m76
            induction m76 with
            | zero => intro x73 x74 h78 hO78 hu78 iv82 px79 px80 px81 mm83; omega
            | succ m76 ih77 =>
              intro x73 x74 h78 hO78 hu78 iv82 px79 px80 px81 mm83
              obtain ⟨fs84, hc85⟩ := hO78.mod
              obtain ⟨f86, p87, t88⟩ := mf_4 hO78 hc85
              have t89 := fI_of hc85 p87
              refine ur_ldI rfl rfl ?_
              refine ur_push rfl ?_
              refine ur_if2 rfl (fun c90 => ?_) (fun c90 => ?_)
              · have t91 := lt_to c90
                have t92 := fI_keep (k := 4) hO0 hO19 hv19 rfl (by decide)
                have t93 := fI_keep (k := 4) hO19 hO46 hv46 rfl (by decide)
                have K94 : SKm h78 ∧ gI h78 81 a1.toInt ≠ 0 := (SKm.row pre0 ⟨by omega, by omega, by omega⟩ px79.1 px79.2 (am_l (a := 81) hO0 (by decide) rfl (by decide)) (by have q := px80; exact q) (by have q := px81.1; rw [show x74.toInt - 1 = 60 by omega] at q; exact q))
                exact ur_ret0 rfl (hQ _ _ rfl hO78 (hu19.tr (hu46.tr (hu56.tr hu78))) K94.1 K94.2)
              · have t95 := lt_no c90
                refine ur_ldI rfl rfl ?_
                refine ur_if1 rfl (fun c96 => ?_) (fun c96 => ?_)
                · have t97 := lt_to c96
                  refine ur_ldI rfl rfl ?_
                  have t98 := fI_keep (k := 4) hO0 hO19 hv19 rfl (by decide)
                  have t99 := fI_keep (k := 4) hO19 hO46 hv46 rfl (by decide)
                  refine ur_callv rfl rfl (Nat.le_of_ble_eq_true rfl) (Nat.le_of_ble_eq_true rfl) rfl (sq_isDay _ _) ?_
                  refine ur_neB rfl (fun c102 => ?_) (fun c102 => ?_)
                  · have t103 := wi_toL c102 l_0 l_999999
                    refine ur_ldA rfl rfl ?_
                    refine ur_get rfl hc85 (mf_13 hO78 hc85) ?_
                    refine ur_ldI rfl rfl ?_
                    refine ur_ldI rfl rfl ?_
                    refine ur_binV rfl (fun x104 e105 => ?_)
                    have z106 := any_r x25
                    have z107 := any_r x74
                    have t108 := ti_sub e105 (by omega) (by omega)
                    refine ur_ldI rfl rfl ?_
                    obtain ⟨xs110, hc109, hn111, he112⟩ := hO78.int (hO78.fix 80 (by decide) rfl)
                    refine ur_astV (W := [80]) (m := 1452) rfl hO78 hc109 (by decide) hn111 (by omega) (by show -1 ≤ x73.toInt ∧ x73.toInt ≤ 999999; omega) (Or.inr (Or.inr (wid_fix (by decide) (by decide)))) (fun h115 hO115 hv115 d113 hc114 => ?_)
                    have hu115 : un [80, 81] h78 h115 := hv115.mono (by decide)
                    have w116 : wI h78 h115 80 ((arI h78 80).set (x104 : Int32).toInt.toNat x73) := ⟨by rw [arI_of hc114, arI_of hc109], d113⟩
                    refine ur_incV (fun z => [some (.inr (.inr (some 69))), some (.inl a1), some (.inl x25), some (.inl x73), some (.inl z)]) rfl rfl (fun _ => rfl) (fun x117 e118 => ?_)
                    have t119 := ti_add e118 (by omega) (by omega)
                    refine ur_go rfl ?_
                    have t120 := fI_of ((d113 _ (by decide)).trans hc85) p87
                    have z121 := any_r x73
                    have z122 := any_r x117
                    exact ih77 x73 x117 _ hO115 (hu78.tr hu115) (by omega) ⟨(px79.1.w (am_l (a := 80) hO78 (by decide) rfl (by decide)) w116 (by omega) (by omega)), ((arI_c (d113 81 (by decide))).trans px79.2)⟩ (mk_k (m := (121 * a1.toInt + 60)) (k := x74.toInt) (am_l (a := 80) hO78 (by decide) rfl (by decide)) w116.1 (by omega) (by omega) (by omega) px80) (mk_b (m := (121 * a1.toInt + 60)) (k := x74.toInt) (am_l (a := 80) hO78 (by decide) rfl (by decide)) w116.1 (by omega) (by omega) (by omega) px81 (by exfalso; omega) (by omega)) (by omega)
                  · have t123 := wi_noL c102 l_0 l_999999
                    refine ur_push rfl ?_
                    refine ur_svIk [some (.inr (.inr (some 69))), some (.inl a1), some (.inl x25), some (.inl (-1)), some (.inl x74)] rfl rfl ?_
                    refine ur_ldA rfl rfl ?_
                    refine ur_get rfl hc85 (mf_13 hO78 hc85) ?_
                    refine ur_ldI rfl rfl ?_
                    refine ur_ldI rfl rfl ?_
                    refine ur_binV rfl (fun x124 e125 => ?_)
                    have z126 := any_r x25
                    have z127 := any_r x74
                    have t128 := ti_sub e125 (by omega) (by omega)
                    refine ur_ldI rfl rfl ?_
                    obtain ⟨xs130, hc129, hn131, he132⟩ := hO78.int (hO78.fix 80 (by decide) rfl)
                    refine ur_astV (W := [80]) (m := 1452) rfl hO78 hc129 (by decide) hn131 (by omega) (by show -1 ≤ ((-1) : Int32).toInt ∧ ((-1) : Int32).toInt ≤ 999999; omega) (Or.inr (Or.inr (wid_fix (by decide) (by decide)))) (fun h135 hO135 hv135 d133 hc134 => ?_)
                    have hu135 : un [80, 81] h78 h135 := hv135.mono (by decide)
                    have w136 : wI h78 h135 80 ((arI h78 80).set (x124 : Int32).toInt.toNat (-1)) := ⟨by rw [arI_of hc134, arI_of hc129], d133⟩
                    refine ur_incV (fun z => [some (.inr (.inr (some 69))), some (.inl a1), some (.inl x25), some (.inl (-1)), some (.inl z)]) rfl rfl (fun _ => rfl) (fun x137 e138 => ?_)
                    have t139 := ti_add e138 (by omega) (by omega)
                    refine ur_go rfl ?_
                    have t140 := fI_of ((d133 _ (by decide)).trans hc85) p87
                    have z141 := any_r x137
                    exact ih77 (-1) x137 _ hO135 (hu78.tr hu135) (by omega) ⟨(px79.1.w (am_l (a := 80) hO78 (by decide) rfl (by decide)) w136 (by omega) (by omega)), ((arI_c (d133 81 (by decide))).trans px79.2)⟩ (mk_k (m := (121 * a1.toInt + 60)) (k := x74.toInt) (am_l (a := 80) hO78 (by decide) rfl (by decide)) w136.1 (by omega) (by omega) (by omega) px80) (mk_b (m := (121 * a1.toInt + 60)) (k := x74.toInt) (am_l (a := 80) hO78 (by decide) rfl (by decide)) w136.1 (by omega) (by omega) (by omega) px81 ⟨fun q => by exfalso; omega, fun _ => by decide⟩ (by omega)) (by omega)
                · have t142 := lt_no c96
                  refine ur_ldA rfl rfl ?_
                  refine ur_ldI rfl rfl ?_
                  refine ur_ldA rfl rfl ?_
                  refine ur_get rfl hc85 (mf_6 hO78 hc85) ?_
                  refine ur_ldI rfl rfl ?_
                  obtain ⟨xs144, hc143, hn145, he146⟩ := hO78.int (hO78.fix 73 (by decide) rfl)
                  refine ur_aldV rfl hc143 hn145 (by omega) (fun x147 hx148 => ?_)
                  have t149 := gI_of (j := a1) hc143 hx148
                  have t150 : gI h78 72 a1.toInt = gI h0 72 a1.toInt := gI_keep (a := 72) (kd := 0) (n := 12) hO0 (hu19.tr (hu46.tr (hu56.tr hu78))) _ (by decide) rfl (by decide) rfl (by decide) (by decide)
                  have t151 : gI h78 73 a1.toInt = gI h0 73 a1.toInt := gI_keep (a := 73) (kd := 0) (n := 12) hO0 (hu19.tr (hu46.tr (hu56.tr hu78))) _ (by decide) rfl (by decide) rfl (by decide) (by decide)
                  obtain ⟨f152, p153, t154⟩ := mf_1 hO78 hc85
                  have t155 := fI_of hc85 p153
                  have t156 := fI_keep (k := 4) hO0 hO19 hv19 rfl (by decide)
                  have t157 := fI_keep (k := 4) hO19 hO46 hv46 rfl (by decide)
                  refine ur_inl rfl (rcv_of hc85) (Nat.le_of_ble_eq_true rfl) (Nat.le_of_ble_eq_true rfl) (sd_X12_passAhead hO78 ((((hX0.un hO0 hO19 hv19 (by decide)).un hO19 hO46 hv46 (by decide)).un hO46 hO56 hu56 (by decide)).un hO56 hO78 hu78 (by decide)) _ (by show 0 ≤ x73.toInt ∧ x73.toInt ≤ 999999; omega) _ (by show -100000 ≤ x147.toInt ∧ x147.toInt ≤ 100000; omega) (pre0.1.un hO0 hO78 (hu19.tr (hu46.tr (hu56.tr hu78))) (by decide) (by decide) (by decide)) (fun w158 hr159 => ?_))
                  obtain ⟨x160, rfl, f161⟩ := hr159
                  show uRun _ (uCall Mt _) _ 131 (_, [(.inl x160)], _, _, _)
                  have t162 : PAr (NMh h0 (gI h0 73 a1.toInt)) x73.toInt (x73.toInt - (gI h0 73 a1.toInt)) x160.toInt := by have e := f161.1; rw [show x147.toInt = (gI h0 73 a1.toInt) by omega] at e; rw [nxM_un hO0 hO78 (hu19.tr (hu46.tr (hu56.tr hu78))) (by decide) (by decide) (by decide)] at e; exact e
                  refine ur_svIk [some (.inr (.inr (some 69))), some (.inl a1), some (.inl x25), some (.inl x160), some (.inl x74)] rfl rfl ?_
                  refine ur_ldI rfl rfl ?_
                  refine ur_callv rfl rfl (Nat.le_of_ble_eq_true rfl) (Nat.le_of_ble_eq_true rfl) rfl (sq_isDay _ _) ?_
                  refine ur_neB rfl (fun c165 => ?_) (fun c165 => ?_)
                  · have t166 := wi_toL c165 l_0 l_999999
                    refine ur_ldA rfl rfl ?_
                    refine ur_get rfl hc85 (mf_13 hO78 hc85) ?_
                    refine ur_ldI rfl rfl ?_
                    refine ur_ldI rfl rfl ?_
                    refine ur_binV rfl (fun x167 e168 => ?_)
                    have z169 := any_r x25
                    have z170 := any_r x74
                    have t171 := ti_sub e168 (by omega) (by omega)
                    refine ur_ldI rfl rfl ?_
                    obtain ⟨xs173, hc172, hn174, he175⟩ := hO78.int (hO78.fix 80 (by decide) rfl)
                    refine ur_astV (W := [80]) (m := 1452) rfl hO78 hc172 (by decide) hn174 (by omega) (by show -1 ≤ x160.toInt ∧ x160.toInt ≤ 999999; omega) (Or.inr (Or.inr (wid_fix (by decide) (by decide)))) (fun h178 hO178 hv178 d176 hc177 => ?_)
                    have hu178 : un [80, 81] h78 h178 := hv178.mono (by decide)
                    have w179 : wI h78 h178 80 ((arI h78 80).set (x167 : Int32).toInt.toNat x160) := ⟨by rw [arI_of hc177, arI_of hc172], d176⟩
                    refine ur_incV (fun z => [some (.inr (.inr (some 69))), some (.inl a1), some (.inl x25), some (.inl x160), some (.inl z)]) rfl rfl (fun _ => rfl) (fun x180 e181 => ?_)
                    have t182 := ti_add e181 (by omega) (by omega)
                    refine ur_go rfl ?_
                    have t183 := fI_of ((d176 _ (by decide)).trans hc85) p87
                    have z184 := any_r x160
                    have z185 := any_r x180
                    exact ih77 x160 x180 _ hO178 (hu78.tr hu178) (by omega) ⟨(px79.1.w (am_l (a := 80) hO78 (by decide) rfl (by decide)) w179 (by omega) (by omega)), ((arI_c (d176 81 (by decide))).trans px79.2)⟩ (mk_k (m := (121 * a1.toInt + 60)) (k := x74.toInt) (am_l (a := 80) hO78 (by decide) rfl (by decide)) w179.1 (by omega) (by omega) (by omega) px80) (mk_b (m := (121 * a1.toInt + 60)) (k := x74.toInt) (am_l (a := 80) hO78 (by decide) rfl (by decide)) w179.1 (by omega) (by omega) (by omega) px81 ⟨fun _ => ⟨_, t162, (dyF_y (by omega)).symm⟩, fun q => by exfalso; omega⟩ (by omega)) (by omega)
                  · have t186 := wi_noL c165 l_0 l_999999
                    refine ur_push rfl ?_
                    refine ur_svIk [some (.inr (.inr (some 69))), some (.inl a1), some (.inl x25), some (.inl (-1)), some (.inl x74)] rfl rfl ?_
                    refine ur_ldA rfl rfl ?_
                    refine ur_get rfl hc85 (mf_13 hO78 hc85) ?_
                    refine ur_ldI rfl rfl ?_
                    refine ur_ldI rfl rfl ?_
                    refine ur_binV rfl (fun x187 e188 => ?_)
                    have z189 := any_r x25
                    have z190 := any_r x74
                    have t191 := ti_sub e188 (by omega) (by omega)
                    refine ur_ldI rfl rfl ?_
                    obtain ⟨xs193, hc192, hn194, he195⟩ := hO78.int (hO78.fix 80 (by decide) rfl)
                    refine ur_astV (W := [80]) (m := 1452) rfl hO78 hc192 (by decide) hn194 (by omega) (by show -1 ≤ ((-1) : Int32).toInt ∧ ((-1) : Int32).toInt ≤ 999999; omega) (Or.inr (Or.inr (wid_fix (by decide) (by decide)))) (fun h198 hO198 hv198 d196 hc197 => ?_)
                    have hu198 : un [80, 81] h78 h198 := hv198.mono (by decide)
                    have w199 : wI h78 h198 80 ((arI h78 80).set (x187 : Int32).toInt.toNat (-1)) := ⟨by rw [arI_of hc197, arI_of hc192], d196⟩
                    refine ur_incV (fun z => [some (.inr (.inr (some 69))), some (.inl a1), some (.inl x25), some (.inl (-1)), some (.inl z)]) rfl rfl (fun _ => rfl) (fun x200 e201 => ?_)
                    have t202 := ti_add e201 (by omega) (by omega)
                    refine ur_go rfl ?_
                    have t203 := fI_of ((d196 _ (by decide)).trans hc85) p87
                    have z204 := any_r x200
                    exact ih77 (-1) x200 _ hO198 (hu78.tr hu198) (by omega) ⟨(px79.1.w (am_l (a := 80) hO78 (by decide) rfl (by decide)) w199 (by omega) (by omega)), ((arI_c (d196 81 (by decide))).trans px79.2)⟩ (mk_k (m := (121 * a1.toInt + 60)) (k := x74.toInt) (am_l (a := 80) hO78 (by decide) rfl (by decide)) w199.1 (by omega) (by omega) (by omega) px80) (mk_b (m := (121 * a1.toInt + 60)) (k := x74.toInt) (am_l (a := 80) hO78 (by decide) rfl (by decide)) w199.1 (by omega) (by omega) (by omega) px81 ⟨fun _ => ⟨_, t162, (show ((-1) : Int32).toInt = -1 by decide).trans (dyF_n (by omega)).symm⟩, fun q => by exfalso; omega⟩ (by omega)) (by omega)
          have z205 := any_r x33
          exact L75 _ x33 1 _ hO56 un.rf (by omega) px57 (by have q := px58.1; rw [show x51.toInt - 1 = 60 by omega] at q; exact q) ⟨BWr_0 (by omega), (by have q := px58.1.1; show gI _ 80 ((121 * a1.toInt + 60) - (1 - 1)) = _; rw [show (121 * a1.toInt + 60) - (1 - 1) = (121 * a1.toInt + 60) + 0 by omega]; exact Eq.trans q (by omega))⟩ (Nat.lt_succ_self _)
        · have t206 := lt_no c67
          refine ur_ldI rfl rfl ?_
          refine ur_if1 rfl (fun c207 => ?_) (fun c207 => ?_)
          · have t208 := lt_to c207
            refine ur_ldI rfl rfl ?_
            have t209 := fI_keep (k := 4) hO0 hO19 hv19 rfl (by decide)
            have t210 := fI_keep (k := 4) hO19 hO46 hv46 rfl (by decide)
            refine ur_callv rfl rfl (Nat.le_of_ble_eq_true rfl) (Nat.le_of_ble_eq_true rfl) rfl (sq_isDay _ _) ?_
            refine ur_neB rfl (fun c213 => ?_) (fun c213 => ?_)
            · have t214 := wi_toL c213 l_0 l_999999
              refine ur_ldA rfl rfl ?_
              refine ur_get rfl hc62 (mf_13 hO56 hc62) ?_
              refine ur_ldI rfl rfl ?_
              refine ur_ldI rfl rfl ?_
              refine ur_binV rfl (fun x215 e216 => ?_)
              have z217 := any_r x25
              have z218 := any_r x51
              have t219 := ti_add e216 (by omega) (by omega)
              refine ur_ldI rfl rfl ?_
              obtain ⟨xs221, hc220, hn222, he223⟩ := hO56.int (hO56.fix 80 (by decide) rfl)
              refine ur_astV (W := [80]) (m := 1452) rfl hO56 hc220 (by decide) hn222 (by omega) (by show -1 ≤ x50.toInt ∧ x50.toInt ≤ 999999; omega) (Or.inr (Or.inr (wid_fix (by decide) (by decide)))) (fun h226 hO226 hv226 d224 hc225 => ?_)
              have hu226 : un [80, 81] h56 h226 := hv226.mono (by decide)
              have w227 : wI h56 h226 80 ((arI h56 80).set (x215 : Int32).toInt.toNat x50) := ⟨by rw [arI_of hc225, arI_of hc220], d224⟩
              refine ur_incV (fun z => [some (.inr (.inr (some 69))), some (.inl a1), some (.inl x25), some (.inl x50), some (.inl z)]) rfl rfl (fun _ => rfl) (fun x228 e229 => ?_)
              have t230 := ti_add e229 (by omega) (by omega)
              refine ur_go rfl ?_
              have t231 := fI_of ((d224 _ (by decide)).trans hc62) p64
              have z232 := any_r x50
              have z233 := any_r x228
              exact ih54 x50 x228 _ hO226 (hu56.tr hu226) (by omega) ⟨(px57.1.w (am_l (a := 80) hO56 (by decide) rfl (by decide)) w227 (by omega) (by omega)), ((arI_c (d224 81 (by decide))).trans px57.2)⟩ (mk_f (m := (121 * a1.toInt + 60)) (k := x51.toInt) (am_l (a := 80) hO56 (by decide) rfl (by decide)) w227.1 (by omega) (by omega) (by omega) px58 (by exfalso; omega) (by omega)) (by omega)
            · have t234 := wi_noL c213 l_0 l_999999
              refine ur_push rfl ?_
              refine ur_svIk [some (.inr (.inr (some 69))), some (.inl a1), some (.inl x25), some (.inl (-1)), some (.inl x51)] rfl rfl ?_
              refine ur_ldA rfl rfl ?_
              refine ur_get rfl hc62 (mf_13 hO56 hc62) ?_
              refine ur_ldI rfl rfl ?_
              refine ur_ldI rfl rfl ?_
              refine ur_binV rfl (fun x235 e236 => ?_)
              have z237 := any_r x25
              have z238 := any_r x51
              have t239 := ti_add e236 (by omega) (by omega)
              refine ur_ldI rfl rfl ?_
              obtain ⟨xs241, hc240, hn242, he243⟩ := hO56.int (hO56.fix 80 (by decide) rfl)
              refine ur_astV (W := [80]) (m := 1452) rfl hO56 hc240 (by decide) hn242 (by omega) (by show -1 ≤ ((-1) : Int32).toInt ∧ ((-1) : Int32).toInt ≤ 999999; omega) (Or.inr (Or.inr (wid_fix (by decide) (by decide)))) (fun h246 hO246 hv246 d244 hc245 => ?_)
              have hu246 : un [80, 81] h56 h246 := hv246.mono (by decide)
              have w247 : wI h56 h246 80 ((arI h56 80).set (x235 : Int32).toInt.toNat (-1)) := ⟨by rw [arI_of hc245, arI_of hc240], d244⟩
              refine ur_incV (fun z => [some (.inr (.inr (some 69))), some (.inl a1), some (.inl x25), some (.inl (-1)), some (.inl z)]) rfl rfl (fun _ => rfl) (fun x248 e249 => ?_)
              have t250 := ti_add e249 (by omega) (by omega)
              refine ur_go rfl ?_
              have t251 := fI_of ((d244 _ (by decide)).trans hc62) p64
              have z252 := any_r x248
              exact ih54 (-1) x248 _ hO246 (hu56.tr hu246) (by omega) ⟨(px57.1.w (am_l (a := 80) hO56 (by decide) rfl (by decide)) w247 (by omega) (by omega)), ((arI_c (d244 81 (by decide))).trans px57.2)⟩ (mk_f (m := (121 * a1.toInt + 60)) (k := x51.toInt) (am_l (a := 80) hO56 (by decide) rfl (by decide)) w247.1 (by omega) (by omega) (by omega) px58 ⟨fun q => by exfalso; omega, fun _ => by decide⟩ (by omega)) (by omega)
          · have t253 := lt_no c207
            refine ur_ldA rfl rfl ?_
            refine ur_ldI rfl rfl ?_
            refine ur_ldA rfl rfl ?_
            refine ur_get rfl hc62 (mf_6 hO56 hc62) ?_
            refine ur_ldI rfl rfl ?_
            obtain ⟨xs255, hc254, hn256, he257⟩ := hO56.int (hO56.fix 73 (by decide) rfl)
            refine ur_aldV rfl hc254 hn256 (by omega) (fun x258 hx259 => ?_)
            have t260 := gI_of (j := a1) hc254 hx259
            have t261 : gI h56 72 a1.toInt = gI h0 72 a1.toInt := gI_keep (a := 72) (kd := 0) (n := 12) hO0 (hu19.tr (hu46.tr hu56)) _ (by decide) rfl (by decide) rfl (by decide) (by decide)
            have t262 : gI h56 73 a1.toInt = gI h0 73 a1.toInt := gI_keep (a := 73) (kd := 0) (n := 12) hO0 (hu19.tr (hu46.tr hu56)) _ (by decide) rfl (by decide) rfl (by decide) (by decide)
            refine ur_ldA rfl rfl ?_
            obtain ⟨f263, p264, t265⟩ := mf_1 hO56 hc62
            have t266 := fI_of hc62 p264
            have t267 := fI_keep (k := 4) hO0 hO19 hv19 rfl (by decide)
            have t268 := fI_keep (k := 4) hO19 hO46 hv46 rfl (by decide)
            refine ur_inl rfl (rcv_of hc62) (Nat.le_of_ble_eq_true rfl) (Nat.le_of_ble_eq_true rfl) (sd_X12_allGreats hO56  (fun w269 hr270 => ?_))
            obtain ⟨x271, rfl, f272⟩ := hr270
            show uRun _ (uCall Mt _) _ 70 (_, [(.inl x271), (.inl x258), (.inl x50), (.inr (.inr (some 69)))], _, _, _)
            refine ur_inl rfl (rcv_of hc62) (Nat.le_of_ble_eq_true rfl) (Nat.le_of_ble_eq_true rfl) (sd_X12_passBehind hO56 (((hX0.un hO0 hO19 hv19 (by decide)).un hO19 hO46 hv46 (by decide)).un hO46 hO56 hu56 (by decide)) _ (by show 0 ≤ x50.toInt ∧ x50.toInt ≤ 999999; omega) _ (by show -100000 ≤ x258.toInt ∧ x258.toInt ≤ 100000; omega) _ (pre0.1.un hO0 hO56 (hu19.tr (hu46.tr hu56)) (by decide) (by decide) (by decide)) (fun w273 hr274 => ?_))
            obtain ⟨x275, rfl, f276⟩ := hr274
            show uRun _ (uCall Mt _) _ 73 (_, [(.inl x275)], _, _, _)
            have t277 : NMh h0 (gI h0 73 a1.toInt) x50.toInt = x275.toInt := by have e := nx_of (sp := (gI h0 73 a1.toInt)) f276.1 f272.1; rw [nxM_un hO0 hO56 (hu19.tr (hu46.tr hu56)) (by decide) (by decide) (by decide) (gI h0 73 a1.toInt)] at e; exact e.trans (by omega)
            refine ur_svIk [some (.inr (.inr (some 69))), some (.inl a1), some (.inl x25), some (.inl x275), some (.inl x51)] rfl rfl ?_
            refine ur_ldI rfl rfl ?_
            refine ur_callv rfl rfl (Nat.le_of_ble_eq_true rfl) (Nat.le_of_ble_eq_true rfl) rfl (sq_isDay _ _) ?_
            refine ur_neB rfl (fun c280 => ?_) (fun c280 => ?_)
            · have t281 := wi_toL c280 l_0 l_999999
              refine ur_ldA rfl rfl ?_
              refine ur_get rfl hc62 (mf_13 hO56 hc62) ?_
              refine ur_ldI rfl rfl ?_
              refine ur_ldI rfl rfl ?_
              refine ur_binV rfl (fun x282 e283 => ?_)
              have z284 := any_r x25
              have z285 := any_r x51
              have t286 := ti_add e283 (by omega) (by omega)
              refine ur_ldI rfl rfl ?_
              obtain ⟨xs288, hc287, hn289, he290⟩ := hO56.int (hO56.fix 80 (by decide) rfl)
              refine ur_astV (W := [80]) (m := 1452) rfl hO56 hc287 (by decide) hn289 (by omega) (by show -1 ≤ x275.toInt ∧ x275.toInt ≤ 999999; omega) (Or.inr (Or.inr (wid_fix (by decide) (by decide)))) (fun h293 hO293 hv293 d291 hc292 => ?_)
              have hu293 : un [80, 81] h56 h293 := hv293.mono (by decide)
              have w294 : wI h56 h293 80 ((arI h56 80).set (x282 : Int32).toInt.toNat x275) := ⟨by rw [arI_of hc292, arI_of hc287], d291⟩
              refine ur_incV (fun z => [some (.inr (.inr (some 69))), some (.inl a1), some (.inl x25), some (.inl x275), some (.inl z)]) rfl rfl (fun _ => rfl) (fun x295 e296 => ?_)
              have t297 := ti_add e296 (by omega) (by omega)
              refine ur_go rfl ?_
              have t298 := fI_of ((d291 _ (by decide)).trans hc62) p64
              have z299 := any_r x275
              have z300 := any_r x295
              exact ih54 x275 x295 _ hO293 (hu56.tr hu293) (by omega) ⟨(px57.1.w (am_l (a := 80) hO56 (by decide) rfl (by decide)) w294 (by omega) (by omega)), ((arI_c (d291 81 (by decide))).trans px57.2)⟩ (mk_f (m := (121 * a1.toInt + 60)) (k := x51.toInt) (am_l (a := 80) hO56 (by decide) rfl (by decide)) w294.1 (by omega) (by omega) (by omega) px58 ⟨fun _ => (dyF_y (by omega)).symm.trans (congrArg dyF t277.symm), fun q => by exfalso; omega⟩ (by omega)) (by omega)
            · have t301 := wi_noL c280 l_0 l_999999
              refine ur_push rfl ?_
              refine ur_svIk [some (.inr (.inr (some 69))), some (.inl a1), some (.inl x25), some (.inl (-1)), some (.inl x51)] rfl rfl ?_
              refine ur_ldA rfl rfl ?_
              refine ur_get rfl hc62 (mf_13 hO56 hc62) ?_
              refine ur_ldI rfl rfl ?_
              refine ur_ldI rfl rfl ?_
              refine ur_binV rfl (fun x302 e303 => ?_)
              have z304 := any_r x25
              have z305 := any_r x51
              have t306 := ti_add e303 (by omega) (by omega)
              refine ur_ldI rfl rfl ?_
              obtain ⟨xs308, hc307, hn309, he310⟩ := hO56.int (hO56.fix 80 (by decide) rfl)
              refine ur_astV (W := [80]) (m := 1452) rfl hO56 hc307 (by decide) hn309 (by omega) (by show -1 ≤ ((-1) : Int32).toInt ∧ ((-1) : Int32).toInt ≤ 999999; omega) (Or.inr (Or.inr (wid_fix (by decide) (by decide)))) (fun h313 hO313 hv313 d311 hc312 => ?_)
              have hu313 : un [80, 81] h56 h313 := hv313.mono (by decide)
              have w314 : wI h56 h313 80 ((arI h56 80).set (x302 : Int32).toInt.toNat (-1)) := ⟨by rw [arI_of hc312, arI_of hc307], d311⟩
              refine ur_incV (fun z => [some (.inr (.inr (some 69))), some (.inl a1), some (.inl x25), some (.inl (-1)), some (.inl z)]) rfl rfl (fun _ => rfl) (fun x315 e316 => ?_)
              have t317 := ti_add e316 (by omega) (by omega)
              refine ur_go rfl ?_
              have t318 := fI_of ((d311 _ (by decide)).trans hc62) p64
              have z319 := any_r x315
              exact ih54 (-1) x315 _ hO313 (hu56.tr hu313) (by omega) ⟨(px57.1.w (am_l (a := 80) hO56 (by decide) rfl (by decide)) w314 (by omega) (by omega)), ((arI_c (d311 81 (by decide))).trans px57.2)⟩ (mk_f (m := (121 * a1.toInt + 60)) (k := x51.toInt) (am_l (a := 80) hO56 (by decide) rfl (by decide)) w314.1 (by omega) (by omega) (by omega) px58 ⟨fun _ => (show ((-1) : Int32).toInt = dyF x275.toInt from (show ((-1) : Int32).toInt = -1 by decide).trans (dyF_n (by omega)).symm).trans (congrArg dyF t277.symm), fun q => by exfalso; omega⟩ (by omega)) (by omega)
    have z320 := any_r x33
    exact L52 _ x33 1 _ hO46 un.rf (by omega) ⟨((show O80 h0 h19 (121 * a1.toInt + 60) from ⟨fun b b0 b1 => w20.2 b b1, fun j _ _ => congrFun (gI_f (w20.2 80 (by decide))) j⟩).w (am_l (a := 80) hO19 (by decide) rfl (by decide)) w47 (by omega) (by omega)), ((arI_c (d44 81 (by decide))).trans w20.1)⟩ ⟨(mk_0 (nx := NMh h0 (gI h0 73 a1.toInt)) (m := (121 * a1.toInt + 60)) (p := (gI h0 72 a1.toInt)) (k := ((1) : Int32).toInt) (am_l (a := 80) hO19 (by decide) rfl (by decide)) w47.1 (by omega) (by omega) (by omega) (by decide)).1, (mk_0 (nx := NMh h0 (gI h0 73 a1.toInt)) (m := (121 * a1.toInt + 60)) (p := (gI h0 72 a1.toInt)) (k := ((1) : Int32).toInt) (am_l (a := 80) hO19 (by decide) rfl (by decide)) w47.1 (by omega) (by omega) (by omega) (by decide)).2.trans (by omega)⟩ (Nat.lt_succ_self _)
  · have t321 := eq_no c15
    have K322 : SKm h0 ∧ gI h0 81 a1.toInt ≠ 0 := ⟨pre0, by omega⟩
    exact ur_ret0 rfl (hQ _ _ rfl hO0 un.rf K322.1 K322.2)
end SKY6
