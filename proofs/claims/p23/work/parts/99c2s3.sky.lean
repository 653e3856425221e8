/-! THE SKY: a comet's returns in the class; printed by program but for its head -/
section SKY3
theorem fC_un {W : List Nat} {h h' : aH} {z k : Nat} (hO : OK h) (g : un W h h') (gz : 114 ≤ z) (t : tg h z = (102, 14)) (hk : k < 14) (hw : 21200 + k ∉ W) : fA h' z k = fA h z k := by
  obtain ⟨fs, c1, e1, -⟩ := hO.obj (ci := 2) (n := 14) t (by decide)
  obtain ⟨c', d1, d2, d3⟩ := g.1 z _ c1
  match c', d1, d3 with
  | .inl (ci, gs), d1, d3 =>
    have d3 : ∀ k : Nat, scr 2 k = true ∨ 1000 + 100 * wid z (100 + 2, fs.length) + k ∈ W ∨ fs[k]? = gs[k]? := d3
    rw [fA_of c1, fA_of d1]
    rcases d3 k with q | q | q
    · exact absurd q (by rw [(show ∀ k, k < 14 → scr 2 k = false by decide) k hk]; decide)
    · rw [show wid z (100 + 2, fs.length) = 202 by rw [e1]; exact wid_c gz] at q
      exact absurd q (by rw [show 1000 + 100 * 202 + k = 21200 + k by omega]; exact hw)
    · exact q.symm
/-- where the passes of a comet stand -/
def qP (h : aH) (z : Nat) : Nat := match fA h z 10 with
  | some (Sum.inr (Sum.inr (some q))) => q
  | _ => 0
theorem qP_of {h : aH} {z q : Nat} (e : fA h z 10 = some (.inr (.inr (some q)))) : qP h z = q := by
  unfold qP
  rw [e]
theorem qP_e {h h' : aH} {z : Nat} (e : fA h' z 10 = fA h z 10) : qP h' z = qP h z := by
  unfold qP
  rw [e]
theorem cm_q {h : aH} {z : Nat} (hO : OK h) (t : tg h z = (102, 14)) : ∃ q, fA h z 10 = some (.inr (.inr (some q))) ∧ qP h z = q ∧ 114 ≤ q ∧ tg h q = (0, 121) ∧ q ≠ z ∧ (arI h q).length = 121 := by
  obtain ⟨g, p, s, nd, rc, w, b, pa, bo, f, l, q1, q2, sg, q3, c, k1, k2, k3, k4, k5⟩ := hO.comet t
  have e : fA h z 10 = some (.inr (.inr (some q1))) := fA_of c
  obtain ⟨xs, hc, hn, he⟩ := hO.int k1.2
  refine ⟨q1, e, qP_of e, k1.1, k1.2, ?_, ?_⟩
  · intro q
    have u := k1.2
    rw [q, t] at u
    exact absurd (congrArg Prod.fst u) (by decide)
  · rw [arI_of hc]
    exact hn
theorem qP_len {h : aH} {z : Nat} (hO : OK h) (t : tg h z = (102, 14)) : (arI h (qP h z)).length = 121 := by
  obtain ⟨q, -, e, -, -, -, l⟩ := cm_q hO t
  rw [e]
  exact l
theorem qP_ne {h : aH} {z : Nat} (hO : OK h) (t : tg h z = (102, 14)) : qP h z ≠ z := by
  obtain ⟨q, -, e, -, -, l, -⟩ := cm_q hO t
  rw [e]
  exact l
theorem gI_sq {h h' : aH} {q n p : Nat} {v : Int32} {j : Int} (hl : (arI h q).length = n) (e : arI h' q = (arI h q).set p v) (hp : p < n) (hj : 0 ≤ j) : (j = (p : Int) → gI h' q j = v.toInt) ∧ (j ≠ (p : Int) → gI h' q j = gI h q j) := by
  unfold gI
  rw [e]
  refine ⟨fun k => ?_, fun k => ?_⟩
  · rw [k, List.getD_eq_getElem?_getD, show ((p : Int)).toNat = p from rfl, List.getElem?_set_self (by omega)]
    rfl
  · rw [List.getD_eq_getElem?_getD, List.getElem?_set_ne (by omega), ← List.getD_eq_getElem?_getD]
/-- nothing but two cells has changed -/
def K2 (h h' : aH) (a q : Nat) : Prop := ∀ b, b ≠ a → b ≠ q → h'[b]? = h[b]?
theorem K2.rf {h : aH} {a q : Nat} : K2 h h a q := fun _ _ _ => rfl
theorem K2.tr {h h1 h2 : aH} {a q : Nat} (g : K2 h h1 a q) (k : K2 h1 h2 a q) : K2 h h2 a q := fun b b1 b2 => (k b b1 b2).trans (g b b1 b2)
theorem K2.sa {h h' : aH} {a q : Nat} (en : ∀ b, b ≠ a → h'[b]? = h[b]?) : K2 h h' a q := fun b b1 _ => en b b1
theorem K2.sq {h h' : aH} {a q : Nat} (en : ∀ b, b ≠ q → h'[b]? = h[b]?) : K2 h h' a q := fun b _ b2 => en b b2
theorem nxC_un {W : List Nat} {h h' : aH} (hO : OK h) (hO' : OK h') (g : un W h h') (h2 : 2 ∉ W) (h3 : 3 ∉ W) (h4 : 1102 ∉ W) (sp : Int) : nxF (gI h' 2) (gI h' 3) (fO h' 1 2) sp = nxF (gI h 2) (gI h 3) (fO h 1 2) sp := by
  have e2 : gI h' 2 = gI h 2 := funext fun j => gI_keep (a := 2) (kd := 0) (n := 4) hO g j (by decide) rfl (by decide) rfl (by decide) h2
  have e3 : gI h' 3 = gI h 3 := funext fun j => gI_keep (a := 3) (kd := 0) (n := 4) hO g j (by decide) rfl (by decide) rfl (by decide) h3
  rw [e2, e3, fO_keep (a := 1) (ci := 6) (n := 5) (k := 2) hO hO' g (by decide) rfl (by decide) rfl h4]
theorem RPc.un {W : List Nat} {h h' : aH} (p : RPc h) (hO : OK h) (hO' : OK h') (g : un W h h') (h2 : 2 ∉ W) (h3 : 3 ∉ W) (h4 : 1102 ∉ W) : RPc h' := fun i i0 i1 => by
  rw [fO_keep (a := 1) (ci := 6) (n := 5) (k := 2) hO hO' g (by decide) rfl (by decide) rfl h4] at i1
  rw [gI_keep (a := 2) (kd := 0) (n := 4) hO g i (by decide) rfl (by decide) rfl (by decide) h2, gI_keep (a := 3) (kd := 0) (n := 4) hO g i (by decide) rfl (by decide) rfl (by decide) h3]
  exact p i i0 i1
/-- the passes that are laid: so many behind, so many ahead -/
def CHf (nx f : Int → Int) (p m : Int) : Prop := f 60 = p ∧ (∀ j : Int, 0 ≤ j → j ≤ m → 0 ≤ f (60 + j) ∧ f (60 + j) ≤ 999999) ∧ ∀ j : Int, 0 ≤ j → j < m → f (60 + (j + 1)) = nx (f (60 + j))
def CHb (nx f : Int → Int) (sp m : Int) : Prop := (∀ j : Int, 0 ≤ j → j ≤ m → 0 ≤ f (60 - j) ∧ f (60 - j) ≤ 999999) ∧ ∀ j : Int, 0 ≤ j → j < m → PAr nx (f (60 - j)) (f (60 - j) - sp) (f (60 - (j + 1)))
theorem CHf_s {nx f g : Int → Int} {p m m' v x : Int} (h : CHf nx f p m) (hm : 0 ≤ m) (e : ∀ j : Int, 0 ≤ j → j ≤ m → g (60 + j) = f (60 + j)) (hv : g (60 + (m + 1)) = v) (hx : f (60 + m) = x) (hn : v = nx x) (hd : 0 ≤ v ∧ v ≤ 999999) (e' : m' = m + 1) : CHf nx g p m' := by
  subst e'
  refine ⟨?_, fun j j0 j1 => ?_, fun j j0 j1 => ?_⟩
  · have u := e 0 (by omega) hm
    rw [Int.add_zero] at u
    rw [u]
    exact h.1
  · by_cases z : j = m + 1
    · rw [z, hv]
      exact hd
    · rw [e j j0 (by omega)]
      exact h.2.1 j j0 (by omega)
  · by_cases z : j = m
    · rw [z, hv, e m hm (by omega), hx]
      exact hn
    · rw [e (j + 1) (by omega) (by omega), e j j0 (by omega)]
      exact h.2.2 j j0 (by omega)
theorem CHf_c {nx f g : Int → Int} {p m : Int} (h : CHf nx f p m) (hm : 0 ≤ m) (e : ∀ j : Int, 60 ≤ j → j ≤ 60 + m → g j = f j) : CHf nx g p m := by
  refine ⟨(e 60 (by omega) (by omega)).trans h.1, fun j j0 j1 => ?_, fun j j0 j1 => ?_⟩
  · rw [e (60 + j) (by omega) (by omega)]
    exact h.2.1 j j0 j1
  · rw [e (60 + (j + 1)) (by omega) (by omega), e (60 + j) (by omega) (by omega)]
    exact h.2.2 j j0 j1
theorem CHb_s {nx f g : Int → Int} {sp m m' v x : Int} (h : CHb nx f sp m) (hm : 0 ≤ m) (e : ∀ j : Int, 0 ≤ j → j ≤ m → g (60 - j) = f (60 - j)) (hv : g (60 - (m + 1)) = v) (hx : f (60 - m) = x) (hn : PAr nx x (x - sp) v) (hd : 0 ≤ v ∧ v ≤ 999999) (e' : m' = m + 1) : CHb nx g sp m' := by
  subst e'
  refine ⟨fun j j0 j1 => ?_, fun j j0 j1 => ?_⟩
  · by_cases z : j = m + 1
    · rw [z, hv]
      exact hd
    · rw [e j j0 (by omega)]
      exact h.1 j j0 (by omega)
  · by_cases z : j = m
    · rw [z, hv, e m hm (by omega), hx]
      exact hn
    · rw [e (j + 1) (by omega) (by omega), e j j0 (by omega)]
      exact h.2 j j0 (by omega)
theorem isRet_of {nx f : Int → Int} {sp p l m : Int} (h : CHf nx f p l) (hl : 0 ≤ l ∧ l ≤ 60) (el : l = 60 ∨ ¬ (0 ≤ nx (f (60 + l)) ∧ nx (f (60 + l)) ≤ 999999)) (k : CHb nx f sp m) (hm : 0 ≤ m ∧ m ≤ 60) (em : m = 60 ∨ ∃ x, PAr nx (f (60 - m)) (f (60 - m) - sp) x ∧ ¬ (0 ≤ x ∧ x ≤ 999999)) : isRe nx sp p (fun j => if -m ≤ j ∧ j ≤ l then f (j + 60) else -1) (-m) l := by
  have i : ∀ j : Int, -m ≤ j → j ≤ l → (fun j : Int => if -m ≤ j ∧ j ≤ l then f (j + 60) else -1) j = f (60 + j) := fun j j0 j1 => by
    show (if -m ≤ j ∧ j ≤ l then f (j + 60) else -1) = _
    rw [if_pos ⟨j0, j1⟩, Int.add_comm]
  have o : ∀ j : Int, ¬ (-m ≤ j ∧ j ≤ l) → (fun j : Int => if -m ≤ j ∧ j ≤ l then f (j + 60) else -1) j = -1 := fun j q => if_neg q
  generalize (fun j : Int => if -m ≤ j ∧ j ≤ l then f (j + 60) else -1) = F at i o
  have rg : ∀ k : Int, -m ≤ k → k ≤ l → 0 ≤ F k ∧ F k ≤ 999999 := fun j j0 j1 => by
    rw [i j j0 j1]
    by_cases q : 0 ≤ j
    · exact h.2.1 j q j1
    · have r := k.1 (-j) (by omega) (by omega)
      rw [show 60 - -j = 60 + j by omega] at r
      exact r
  refine ⟨⟨⟨?_, fun j j0 j1 => ?_⟩, fun j j0 j1 => ?_⟩, rg⟩
  · rw [i 0 (by omega) hl.1, Int.add_zero]
    exact h.1
  · by_cases q : j ≤ l
    · have r := h.2.1 j j0 q
      rw [i j (by omega) q]
      refine ⟨fun _ => ?_, fun z => by omega⟩
      by_cases u : j < l
      · have r2 := h.2.1 (j + 1) (by omega) (by omega)
        rw [i (j + 1) (by omega) (by omega), ← h.2.2 j j0 u, dyF_y r2]
      · have ej : j = l := by omega
        rw [o (j + 1) (by omega)]
        rcases el with el | el
        · omega
        · rw [← ej] at el
          rw [dyF_n el]
    · rw [o j (by omega), o (j + 1) (by omega)]
      exact ⟨fun z => absurd z (by decide), fun _ => rfl⟩
  · by_cases q : j ≤ m
    · have r := k.1 j j0 q
      have ei : F (-j) = f (60 - j) := by rw [i (-j) (by omega) (by omega), ← Int.sub_eq_add_neg]
      rw [ei]
      refine ⟨fun _ => ?_, fun z => by omega⟩
      by_cases u : j < m
      · have r2 := k.1 (j + 1) (by omega) (by omega)
        refine ⟨_, k.2 j j0 u, ?_⟩
        rw [i (-(j + 1)) (by omega) (by omega), ← Int.sub_eq_add_neg, dyF_y r2]
      · have ej : j = m := by omega
        rcases em with em | ⟨x, x1, x2⟩
        · omega
        · rw [ej]
          exact ⟨x, x1, by rw [o (-(m + 1)) (by omega), dyF_n x2]⟩
    · rw [o (-j) (by omega), o (-(j + 1)) (by omega)]
      exact ⟨fun z => absurd z (by decide), fun _ => rfl⟩
/-- the pass of a return of a comet; -1: there is none -/
def cf (h : aH) (z : Nat) (k : Int) : Int := if fO h z 8 ≤ k ∧ k ≤ fO h z 9 then gI h (qP h z) (k + 60) else -1
theorem cf_ret {nx : Int → Int} {h : aH} {z q : Nat} {sp p l m : Int} (e8 : fO h z 8 = -m) (e9 : fO h z 9 = l) (eq : qP h z = q) (r : isRe nx sp p (fun j => if -m ≤ j ∧ j ≤ l then gI h q (j + 60) else -1) (-m) l) : isRe nx sp p (cf h z) (fO h z 8) (fO h z 9) := by
  have e : cf h z = fun j => if -m ≤ j ∧ j ≤ l then gI h q (j + 60) else -1 := by
    funext j
    unfold cf
    rw [e8, e9, eq]
  rw [e, e8, e9]
  exact r
/-- a pass has been laid -/
theorem rk_0 {h1 h2 h3 : aH} {q : Nat} {nx : Int → Int} {p : Int} {i y : Int32} (hl : (arI h1 q).length = 121) (w : arI h2 q = (arI h1 q).set (i.toInt + 60).toNat y) (e3 : arI h3 q = arI h2 q) (hi : i.toInt = 0) (hp : y.toInt = p) (hd : 0 ≤ p ∧ p ≤ 999999) {m : Int} (e : m = 0) : CHf nx (gI h3 q) p m ∧ CHb nx (gI h3 q) 0 0 := by
  have u : gI h3 q 60 = p := by
    rw [gI_e e3, ← hp]
    exact (gI_sq (j := 60) hl w (by omega) (by omega)).1 (by omega)
  subst e
  refine ⟨⟨u, fun j j0 j1 => ?_, fun j j0 j1 => by omega⟩, fun j j0 j1 => ?_, fun j j0 j1 => by omega⟩
  · rw [show 60 + j = 60 by omega, u]
    exact hd
  · rw [show 60 - j = 60 by omega, u]
    exact hd
theorem CHb_0 {nx f : Int → Int} {p sp m l : Int} (h : CHf nx f p l) (hl : 0 ≤ l) (e : m = 0) : CHb nx f sp m := ⟨fun j j0 j1 => by
  have u := h.2.1 0 (by omega) hl
  rw [show 60 - j = 60 + 0 by omega]
  exact u, fun j j0 j1 => by omega⟩
theorem rk_f {h1 h2 h3 : aH} {q : Nat} {nx : Int → Int} {p k m m' x : Int} {i y : Int32} (hl : (arI h1 q).length = 121) (px : CHf nx (gI h1 q) p m) (w : arI h2 q = (arI h1 q).set (i.toInt + 60).toNat y) (e3 : arI h3 q = arI h2 q) (hi : i.toInt = k) (hk : 1 ≤ k ∧ k ≤ 60) (hx : gI h1 q (60 + (k - 1)) = x) (hn : y.toInt = nx x) (hd : 0 ≤ y.toInt ∧ y.toInt ≤ 999999) (e : m = k - 1) (e' : m' = k) : CHf nx (gI h3 q) p m' := by
  subst e e'
  exact CHf_s px (by omega) (fun j j0 j1 => by rw [gI_e e3]; exact (gI_sq hl w (by omega) (by omega)).2 (by omega)) (v := y.toInt) (by rw [gI_e e3]; exact (gI_sq hl w (by omega) (by omega)).1 (by omega)) hx hn hd (by omega)
theorem rk_b {h1 h2 h3 : aH} {q : Nat} {nx : Int → Int} {sp k m m' x : Int} {i y : Int32} (hl : (arI h1 q).length = 121) (px : CHb nx (gI h1 q) sp m) (w : arI h2 q = (arI h1 q).set (i.toInt + 60).toNat y) (e3 : arI h3 q = arI h2 q) (hi : i.toInt = k) (hk : -60 ≤ k ∧ k ≤ -1) (hx : gI h1 q (60 + (k + 1)) = x) (hn : PAr nx x (x - sp) y.toInt) (hd : 0 ≤ y.toInt ∧ y.toInt ≤ 999999) (e : m = -(k + 1)) (e' : m' = -k) : CHb nx (gI h3 q) sp m' := by
  subst e e'
  exact CHb_s px (by omega) (fun j j0 j1 => by rw [gI_e e3]; exact (gI_sq hl w (by omega) (by omega)).2 (by omega)) (v := y.toInt) (by rw [gI_e e3]; exact (gI_sq hl w (by omega) (by omega)).1 (by omega)) (by rw [← hx]; exact congrArg _ (by omega)) hn hd (by omega)
theorem rk_c {h1 h2 h3 : aH} {q : Nat} {nx : Int → Int} {p k l : Int} {i y : Int32} (hl : (arI h1 q).length = 121) (px : CHf nx (gI h1 q) p l) (h0 : 0 ≤ l) (w : arI h2 q = (arI h1 q).set (i.toInt + 60).toNat y) (e3 : arI h3 q = arI h2 q) (hi : i.toInt = k) (hk : -60 ≤ k ∧ k ≤ -1) : CHf nx (gI h3 q) p l := CHf_c px h0 (fun j j0 j1 => by rw [gI_e e3]; exact (gI_sq hl w (by omega) (by omega)).2 (by omega))
theorem rk_u {h1 h2 h3 : aH} {q : Nat} {k j0 x : Int} {i y : Int32} (hl : (arI h1 q).length = 121) (px : gI h1 q j0 = x) (hj : 60 ≤ j0) (w : arI h2 q = (arI h1 q).set (i.toInt + 60).toNat y) (e3 : arI h3 q = arI h2 q) (hi : i.toInt = k) (hk : -60 ≤ k ∧ k ≤ -1) : gI h3 q j0 = x := by
  rw [gI_e e3, ← px]
  exact (gI_sq hl w (by omega) (by omega)).2 (by omega)
set_option maxRecDepth 20000 in
set_option maxHeartbeats 4000000 in
theorem sd_X2_setPass {d kc ks : Nat} {h0 : aH} {Q : Option aV → aH → Prop} (hO0 : OK h0) {a0 : Nat} (g0 : 114 ≤ a0) (t0 : tg h0 a0 = (102, 14)) (a1 : Int32) (b1 : -60 ≤ a1.toInt ∧ a1.toInt ≤ 60) (a2 : Int32) (hQ : ∀ r h', (r = none) → OK h' → un [221] h0 h' → (wI h0 h' (qP h0 a0) ((arI h0 (qP h0 a0)).set (a1.toInt + 60).toNat a2)) → Q r h') : uCall Mt (d + 3) 21 [(.inr (.inr (some a0))), (.inl a1), (.inl a2)] h0 kc ks Q := by
  have l_m60 : ((-60) : Int32).toInt = -60 := by decide
  have l_60 : ((60) : Int32).toInt = 60 := by decide
  refine uc_ink [some (.inr (.inr (some a0))), some (.inl a1), some (.inl a2)] mt_21 (Nat.le_of_ble_eq_true rfl) rfl ?_
  obtain ⟨g21, f2, f3, f4, f5, f6, f7, f8, f9, f10, f11, q12, q13, o14, q15, hc1, k16, k17, k18, k19, k20⟩ := hO0.comet t0
  refine ur_ldI rfl rfl ?_
  refine ur_callv rfl rfl (Nat.le_of_ble_eq_true rfl) (Nat.le_of_ble_eq_true rfl) rfl (sp_isRet _ _) ?_
  refine ur_eqB rfl (fun c24 => ?_) (fun c24 => ?_)
  · have t25 := wi_noL c24 l_m60 l_60
    exact ur_ret0 rfl (hQ _ _ rfl hO0 un.rf (by exfalso; omega))
  · have t26 := wi_toL c24 l_m60 l_60
    refine ur_ldA rfl rfl ?_
    refine ur_get rfl hc1 rfl ?_
    refine ur_ldI rfl rfl ?_
    refine ur_push rfl ?_
    refine ur_binV rfl (fun x27 e28 => ?_)
    have z29 := any_r a1
    have t30 := ti_add e28 (by omega) (by omega)
    refine ur_ldI rfl rfl ?_
    obtain ⟨xs32, hc31, hn33, he34⟩ := hO0.int k16.2
    refine ur_astV (W := [221]) (m := 121) rfl hO0 hc31 (by decide) hn33 (by omega) (any_d k16.1 _) (Or.inr (Or.inr (wid_pas k16.1 (by decide)))) (fun h37 hO37 hu37 d35 hc36 => ?_)
    have w38 : wI h0 h37 q12 ((arI h0 q12).set (x27 : Int32).toInt.toNat a2) := ⟨by rw [arI_of hc36, arI_of hc31], d35⟩
    exact ur_ret0 rfl (hQ _ _ rfl hO37 hu37 (by rw [show qP h0 a0 = q12 from qP_of (fA_of hc1), show (a1.toInt + 60).toNat = (x27 : Int32).toInt.toNat from congrArg Int.toNat (show a1.toInt + 60 = (x27 : Int32).toInt by omega)]; exact w38))

set_option maxRecDepth 20000 in
set_option maxHeartbeats 4000000 in
theorem sd_X2_passOf {d kc ks : Nat} {h0 : aH} {Q : Option aV → aH → Prop} (hO0 : OK h0) {a0 : Nat} (g0 : 114 ≤ a0) (t0 : tg h0 a0 = (102, 14)) (a1 : Int32) (b1 : -60 ≤ a1.toInt ∧ a1.toInt ≤ 60) (hQ : ∀ r, (∃ x : Int32, r = some (.inl x) ∧ (x.toInt = gI h0 (qP h0 a0) (a1.toInt + 60))) → Q r h0) : uCall Mt (d + 3) 20 [(.inr (.inr (some a0))), (.inl a1)] h0 kc ks Q := by
  have l_m60 : ((-60) : Int32).toInt = -60 := by decide
  have l_60 : ((60) : Int32).toInt = 60 := by decide
  refine uc_ink [some (.inr (.inr (some a0))), some (.inl a1)] mt_20 (Nat.le_of_ble_eq_true rfl) rfl ?_
  obtain ⟨g21, f2, f3, f4, f5, f6, f7, f8, f9, f10, f11, q12, q13, o14, q15, hc1, k16, k17, k18, k19, k20⟩ := hO0.comet t0
  refine ur_ldI rfl rfl ?_
  refine ur_callv rfl rfl (Nat.le_of_ble_eq_true rfl) (Nat.le_of_ble_eq_true rfl) rfl (sp_isRet _ _) ?_
  refine ur_eqB rfl (fun c24 => ?_) (fun c24 => ?_)
  · have t25 := wi_noL c24 l_m60 l_60
    refine ur_ldA rfl rfl ?_
    refine ur_get rfl hc1 rfl ?_
    exact ur_ret rfl rfl (hQ _ ⟨_, rfl, (by exfalso; omega)⟩ )
  · have t26 := wi_toL c24 l_m60 l_60
    refine ur_ldA rfl rfl ?_
    refine ur_get rfl hc1 rfl ?_
    refine ur_ldI rfl rfl ?_
    refine ur_push rfl ?_
    refine ur_binV rfl (fun x27 e28 => ?_)
    have z29 := any_r a1
    have t30 := ti_add e28 (by omega) (by omega)
    obtain ⟨xs32, hc31, hn33, he34⟩ := hO0.int k16.2
    refine ur_aldV rfl hc31 hn33 (by omega) (fun x35 hx36 => ?_)
    have t37 := gI_of (j := x27) hc31 hx36
    refine ur_go rfl ?_
    exact ur_ret rfl rfl (hQ _ ⟨_, rfl, (by rw [show qP h0 a0 = q12 from qP_of (fA_of hc1), show a1.toInt + 60 = x27.toInt by omega]; exact t37.symm)⟩ )

set_option maxRecDepth 20000 in
set_option maxHeartbeats 4000000 in
theorem sd_X2_hasReturn {d kc ks : Nat} {h0 : aH} {Q : Option aV → aH → Prop} (hO0 : OK h0) {a0 : Nat} (g0 : 114 ≤ a0) (t0 : tg h0 a0 = (102, 14)) (a1 : Int32) (hQ : ∀ r, (∃ q, r = some (.inl (bi q)) ∧ (q = true → (fO h0 a0 8 ≤ a1.toInt ∧ a1.toInt ≤ fO h0 a0 9)) ∧ (q = false → ¬ (fO h0 a0 8 ≤ a1.toInt ∧ a1.toInt ≤ fO h0 a0 9))) → Q r h0) : uCall Mt (d + 1) 19 [(.inr (.inr (some a0))), (.inl a1)] h0 kc ks Q := by
  have l_0 : ((0) : Int32).toInt = 0 := by decide
  have l_1 : ((1) : Int32).toInt = 1 := by decide
  refine uc_ink [some (.inr (.inr (some a0))), some (.inl a1)] mt_19 (Nat.le_of_ble_eq_true rfl) rfl ?_
  obtain ⟨g21, f2, f3, f4, f5, f6, f7, f8, f9, f10, f11, q12, q13, o14, q15, hc1, k16, k17, k18, k19, k20⟩ := hO0.comet t0
  have t22 := fO_of (k := 8) hc1 rfl
  have t23 := fO_of (k := 9) hc1 rfl
  refine ur_ldI rfl rfl ?_
  refine ur_ldA rfl rfl ?_
  refine ur_get rfl hc1 rfl ?_
  have z24 := any_r a1
  have z25 := any_r f10
  refine ur_if2 rfl (fun c26 => ?_) (fun c26 => ?_)
  · have t27 := lt_to c26
    refine ur_push rfl ?_
    exact ur_ret rfl rfl (hQ _ ⟨false, rfl, fun e => absurd e (by decide), fun _ => by omega⟩ )
  · have t28 := lt_no c26
    refine ur_ldI rfl rfl ?_
    refine ur_ldA rfl rfl ?_
    refine ur_get rfl hc1 rfl ?_
    have z29 := any_r f11
    refine ur_if2 rfl (fun c30 => ?_) (fun c30 => ?_)
    · have t31 := lt_to c30
      refine ur_push rfl ?_
      exact ur_ret rfl rfl (hQ _ ⟨false, rfl, fun e => absurd e (by decide), fun _ => by omega⟩ )
    · have t32 := lt_no c30
      refine ur_push rfl ?_
      refine ur_go rfl ?_
      exact ur_ret rfl rfl (hQ _ ⟨true, rfl, fun _ => by omega, fun e => absurd e (by decide)⟩ )

set_option maxRecDepth 20000 in
set_option maxHeartbeats 4000000 in
theorem sd_X6_reckonReturns {d kc ks : Nat} {h0 : aH} {Q : Option aV → aH → Prop} (hO0 : OK h0) {a1 : Nat} (g1 : 114 ≤ a1) (t1 : tg h0 a1 = (102, 14)) (pre0 : RPc h0) (pre1 : 0 ≤ (fO h0 a1 0) ∧ (fO h0 a1 0) ≤ 999999) (pre2 : -100000 ≤ (fO h0 a1 1) ∧ (fO h0 a1 1) ≤ 100000) (hQ : ∀ r h', (r = none) → OK h' → un [221, 21208, 21209] h0 h' → (isRe (nxF (gI h0 2) (gI h0 3) (fO h0 1 2) (fO h0 a1 1)) (fO h0 a1 1) (fO h0 a1 0) (cf h' a1) (fO h' a1 8) (fO h' a1 9)) → (K2 h0 h' a1 (qP h0 a1)) → Q r h') : uCall Mt (d + 4) 67 [(.inr (.inr (some 1))), (.inr (.inr (some a1)))] h0 kc ks Q := by
  have l_m60 : ((-60) : Int32).toInt = -60 := by decide
  have l_m1 : ((-1) : Int32).toInt = -1 := by decide
  have l_0 : ((0) : Int32).toInt = 0 := by decide
  have l_1 : ((1) : Int32).toInt = 1 := by decide
  have l_60 : ((60) : Int32).toInt = 60 := by decide
  have l_999999 : ((999999) : Int32).toInt = 999999 := by decide
  refine uc_ink [some (.inr (.inr (some 1))), some (.inr (.inr (some a1))), none, none, none] mt_67 (Nat.le_of_ble_eq_true rfl) rfl ?_
  obtain ⟨f2, f3, hc1, k4⟩ := ok_1 hO0
  have t5 := fO_of (k := 2) hc1 rfl
  obtain ⟨g26, f7, f8, f9, f10, f11, f12, f13, f14, f15, f16, q17, q18, o19, q20, hc6, k21, k22, k23, k24, k25⟩ := hO0.comet t1
  have t27 := fO_of (k := 0) hc6 rfl
  have t28 := fO_of (k := 1) hc6 rfl
  have t29 := fO_of (k := 8) hc6 rfl
  have t30 := fO_of (k := 9) hc6 rfl
  refine ur_ldA rfl rfl ?_
  refine ur_nulS rfl ?_
  have hqz := qP_ne hO0 t1
  refine ur_ldA rfl rfl ?_
  refine ur_push rfl ?_
  refine ur_ldA rfl rfl ?_
  refine ur_get rfl hc6 rfl ?_
  refine ur_inl rfl (rcv_of hc6) (Nat.le_of_ble_eq_true rfl) (Nat.le_of_ble_eq_true rfl) (sd_X2_setPass hO0 g26 t1 _ (by show -60 ≤ (0 : Int32).toInt ∧ (0 : Int32).toInt ≤ 60; omega) _ (fun w31 h34 hr32 hO34 hv34 hp33 => ?_))
  have hu34 : un [221, 21208, 21209] h0 h34 := hv34.mono (by decide)
  subst hr32
  show uRun _ (uCall Mt _) _ 14 (_, [], _, _, _)
  have q35 : qP h0 a1 = (qP h0 a1) := rfl
  have w36 : wI h0 h34 (qP h0 a1) ((arI h0 (qP h0 a1)).set ((0 : Int32).toInt + 60).toNat f7) := by have w := hp33; rw [q35] at w; exact w
  have l37 : (arI h0 (qP h0 a1)).length = 121 := by rw [← q35]; exact qP_len hO0 t1
  refine ur_ldA rfl rfl ?_
  refine ur_push rfl ?_
  have t38 := fO_of (k := 0) (hv34.ko (n := 14) hc6 rfl (wid_c g26) (by decide)) rfl
  have t39 := fO_of (k := 1) (hv34.ko (n := 14) hc6 rfl (wid_c g26) (by decide)) rfl
  have t40 := fO_of (k := 8) (hv34.ko (n := 14) hc6 rfl (wid_c g26) (by decide)) rfl
  have t41 := fO_of (k := 9) (hv34.ko (n := 14) hc6 rfl (wid_c g26) (by decide)) rfl
  refine ur_putV (W := [21208]) (fs' := [(.inl f7), (.inl f8), (.inl f9), (.inl f10), (.inl f11), (.inl f12), (.inl f13), (.inl f14), (.inl 0), (.inl f16), (.inr (.inr (some q17))), (.inr (.inr (some q18))), (.inr (.inr o19)), (.inr (.inr (some q20)))]) rfl hO34 (hv34.ko (n := 14) hc6 rfl (wid_c g26) (by decide)) (Nat.le_of_ble_eq_true rfl) rfl rfl ⟨g26, _, _, _, _, _, _, _, _, _, _, _, _, _, _, rfl, ⟨k21.1, (hu34.tm k21.2 (by decide))⟩, ⟨k22.1, (hu34.tm k22.2 (by decide))⟩, (fun z e => ⟨(k23 z e).1, (hu34.tm (k23 z e).2 (by decide))⟩), ⟨k24.1, (hu34.tm k24.2 (by decide))⟩, by omega⟩ rfl (Or.inr (by show 1000 + 100 * wid a1 (102, 14) + 8 ∈ _; rw [(wid_c g26)]; decide)) (fun h43 hO43 hv43 d42 hc44 => ?_)
  have hu43 : un [221, 21208, 21209] h34 h43 := hv43.mono (by decide)
  refine ur_ldA rfl rfl ?_
  refine ur_push rfl ?_
  have t45 := fO_of (k := 0) hc44 rfl
  have t46 := fO_of (k := 1) hc44 rfl
  have t47 := fO_of (k := 8) hc44 rfl
  have t48 := fO_of (k := 9) hc44 rfl
  refine ur_putV (W := [21209]) (fs' := [(.inl f7), (.inl f8), (.inl f9), (.inl f10), (.inl f11), (.inl f12), (.inl f13), (.inl f14), (.inl 0), (.inl 0), (.inr (.inr (some q17))), (.inr (.inr (some q18))), (.inr (.inr o19)), (.inr (.inr (some q20)))]) rfl hO43 hc44 (Nat.le_of_ble_eq_true rfl) rfl rfl ⟨g26, _, _, _, _, _, _, _, _, _, _, _, _, _, _, rfl, ⟨k21.1, (hu43.tm (hu34.tm k21.2 (by decide)) (by decide))⟩, ⟨k22.1, (hu43.tm (hu34.tm k22.2 (by decide)) (by decide))⟩, (fun z e => ⟨(k23 z e).1, (hu43.tm (hu34.tm (k23 z e).2 (by decide)) (by decide))⟩), ⟨k24.1, (hu43.tm (hu34.tm k24.2 (by decide)) (by decide))⟩, by omega⟩ rfl (Or.inr (by show 1000 + 100 * wid a1 (102, 14) + 9 ∈ _; rw [(wid_c g26)]; decide)) (fun h50 hO50 hv50 d49 hc51 => ?_)
  have hu50 : un [221, 21208, 21209] h43 h50 := hv50.mono (by decide)
  refine ur_push rfl ?_
  refine ur_svIk [some (.inr (.inr (some 1))), some (.inr (.inr (some a1))), some (.inl 1), none, none] rfl rfl ?_
  have hc58 := ((d49 _ (ne_tg (hO50.fix 1 (by decide) rfl) (hu50.tm (hu43.tm (hu34.tm t1 (by decide)) (by decide)) (by decide)) (by decide))).trans ((d42 _ (ne_tg (hO50.fix 1 (by decide) rfl) (hu50.tm (hu43.tm (hu34.tm t1 (by decide)) (by decide)) (by decide)) (by decide))).trans (hv34.ko (n := 5) hc1 rfl (wid_f (by decide)) (by decide))))
  have t59 := fO_of (k := 2) hc58 rfl
  have t60 := fO_of (k := 0) hc51 rfl
  have t61 := fO_of (k := 1) hc51 rfl
  have t62 := fO_of (k := 8) hc51 rfl
  have t63 := fO_of (k := 9) hc51 rfl
  have L55 : ∀ (m56 : Nat) (x52 : Int32) (u53 : Option aV) (u54 : Option aV) (h64 : aH) , OK h64 → un [221, 21208, 21209] h50 h64 → ((1 ≤ x52.toInt ∧ x52.toInt ≤ 61) ∧ fO h64 a1 0 = fO h0 a1 0 ∧ fO h64 a1 1 = fO h0 a1 1 ∧ fO h64 a1 8 = 0 ∧ fO h64 a1 9 = x52.toInt - 1) → (K2 h0 h64 a1 (qP h0 a1)) → (CHf (nxF (gI h0 2) (gI h0 3) (fO h0 1 2) (fO h0 a1 1)) (gI h64 (qP h0 a1)) (fO h0 a1 0) (x52.toInt - 1)) → ((62 - x52.toInt).toNat) < m56 → uRun oX6_reckonReturns (uCall Mt (d + 3)) Q 26 ([some (.inr (.inr (some 1))), some (.inr (.inr (some a1))), some (.inl x52), u53, u54], [], h64, kc, ks) := by
    intro m56
    induction m56 with
    | zero => intro x52 u53 u54 h64 hO64 hu64 iv67 px65 px66 mm68; omega
    | succ m56 ih57 =>
      intro x52 u53 u54 h64 hO64 hu64 iv67 px65 px66 mm68
      refine ur_ldI rfl rfl ?_
      refine ur_push rfl ?_
      refine ur_if2 rfl (fun c69 => ?_) (fun c69 => ?_)
      · have t70 := lt_to c69
        have t72 := fO_of (k := 2) (hu64.ko (n := 5) hc58 rfl (wid_f (by decide)) (by decide)) rfl
        obtain ⟨g93, f74, f75, f76, f77, f78, f79, f80, f81, f82, f83, q84, q85, o86, q87, hc73, k88, k89, k90, k91, k92⟩ := hO64.comet (hu64.tm (hu50.tm (hu43.tm (hu34.tm t1 (by decide)) (by decide)) (by decide)) (by decide))
        have t94 := fO_of (k := 0) hc73 rfl
        have t95 := fO_of (k := 1) hc73 rfl
        have t96 := fO_of (k := 8) hc73 rfl
        have t97 := fO_of (k := 9) hc73 rfl
        have el71 : (fO h64 a1 9) = 60 ∨ ¬ (0 ≤ nxF (gI h0 2) (gI h0 3) (fO h0 1 2) (fO h0 a1 1) (gI h64 (qP h0 a1) (60 + (fO h64 a1 9))) ∧ nxF (gI h0 2) (gI h0 3) (fO h0 1 2) (fO h0 a1 1) (gI h64 (qP h0 a1) (60 + (fO h64 a1 9))) ≤ 999999) := Or.inl (by omega)
        have ch98 : CHf (nxF (gI h0 2) (gI h0 3) (fO h0 1 2) (fO h0 a1 1)) (gI h64 (qP h0 a1)) (fO h0 a1 0) (fO h64 a1 9) := by have e := px66; rw [show x52.toInt - 1 = (fO h64 a1 9) by omega] at e; exact e
        refine ur_push rfl ?_
        refine ur_svIk [some (.inr (.inr (some 1))), some (.inr (.inr (some a1))), some (.inl (-1)), u53, u54] rfl rfl ?_
        have L101 : ∀ (m102 : Nat) (x99 : Int32) (u100 : Option aV) (h104 : aH) , OK h104 → un [221, 21208, 21209] h64 h104 → ((-61 ≤ x99.toInt ∧ x99.toInt ≤ -1) ∧ fO h104 a1 0 = fO h0 a1 0 ∧ fO h104 a1 1 = fO h0 a1 1 ∧ fO h104 a1 8 = x99.toInt + 1 ∧ fO h104 a1 9 = fO h64 a1 9) → (K2 h0 h104 a1 (qP h0 a1)) → (CHf (nxF (gI h0 2) (gI h0 3) (fO h0 1 2) (fO h0 a1 1)) (gI h104 (qP h0 a1)) (fO h0 a1 0) (fO h64 a1 9)) → (CHb (nxF (gI h0 2) (gI h0 3) (fO h0 1 2) (fO h0 a1 1)) (gI h104 (qP h0 a1)) (fO h0 a1 1) (-(x99.toInt + 1))) → ((fO h64 a1 9 = 60 ∨ ¬ (0 ≤ nxF (gI h0 2) (gI h0 3) (fO h0 1 2) (fO h0 a1 1) (gI h104 (qP h0 a1) (60 + (fO h64 a1 9))) ∧ nxF (gI h0 2) (gI h0 3) (fO h0 1 2) (fO h0 a1 1) (gI h104 (qP h0 a1) (60 + (fO h64 a1 9))) ≤ 999999))) → ((x99.toInt + 62).toNat) < m102 → uRun oX6_reckonReturns (uCall Mt (d + 3)) Q 89 ([some (.inr (.inr (some 1))), some (.inr (.inr (some a1))), some (.inl x99), u100, u54], [], h104, kc, ks) := by
          intro m102
          induction m102 with
          | zero => intro x99 u100 h104 hO104 hu104 iv109 px105 px106 px107 px108 mm110; omega
          | succ m102 ih103 =>
            intro x99 u100 h104 hO104 hu104 iv109 px105 px106 px107 px108 mm110
            refine ur_ldI rfl rfl ?_
            refine ur_push rfl ?_
            refine ur_if2 rfl (fun c111 => ?_) (fun c111 => ?_)
            · have t112 := lt_to c111
              have t113 := fO_of (k := 2) (hu104.ko (n := 5) (hu64.ko (n := 5) hc58 rfl (wid_f (by decide)) (by decide)) rfl (wid_f (by decide)) (by decide)) rfl
              obtain ⟨g134, f115, f116, f117, f118, f119, f120, f121, f122, f123, f124, q125, q126, o127, q128, hc114, k129, k130, k131, k132, k133⟩ := hO104.comet (hu104.tm (hu64.tm (hu50.tm (hu43.tm (hu34.tm t1 (by decide)) (by decide)) (by decide)) (by decide)) (by decide))
              have t135 := fO_of (k := 0) hc114 rfl
              have t136 := fO_of (k := 1) hc114 rfl
              have t137 := fO_of (k := 8) hc114 rfl
              have t138 := fO_of (k := 9) hc114 rfl
              have t139 := fO_keep (a := 1) (ci := 6) (n := 5) (k := 2) hO0 hO34 hv34 (by decide) rfl (by decide) rfl (by decide)
              have t140 := fO_keep (a := 1) (ci := 6) (n := 5) (k := 2) hO34 hO43 hv43 (by decide) rfl (by decide) rfl (by decide)
              have t141 := fO_keep (a := 1) (ci := 6) (n := 5) (k := 2) hO43 hO50 hv50 (by decide) rfl (by decide) rfl (by decide)
              exact ur_ret0 rfl (hQ _ _ rfl hO104 (hu34.tr (hu43.tr (hu50.tr (hu64.tr hu104)))) (cf_ret (m := -(x99.toInt + 1)) (l := fO h64 a1 9) (by omega) (by omega) (qP_e (fC_un hO0 (hu34.tr (hu43.tr (hu50.tr (hu64.tr hu104)))) g1 t1 (by decide) (by decide))) (isRet_of px106 (by omega) px108 px107 (by omega) (Or.inl (by omega)))) px105)
            · have t142 := lt_no c111
              refine ur_ldA rfl rfl ?_
              refine ur_ldA rfl rfl ?_
              refine ur_ldI rfl rfl ?_
              refine ur_push rfl ?_
              refine ur_binV rfl (fun x143 e144 => ?_)
              have z145 := any_r x99
              have t146 := ti_add e144 (by omega) (by omega)
              obtain ⟨g167, f148, f149, f150, f151, f152, f153, f154, f155, f156, f157, q158, q159, o160, q161, hc147, k162, k163, k164, k165, k166⟩ := hO104.comet (hu104.tm (hu64.tm (hu50.tm (hu43.tm (hu34.tm t1 (by decide)) (by decide)) (by decide)) (by decide)) (by decide))
              have t168 := fO_keep (a := 1) (ci := 6) (n := 5) (k := 2) hO0 hO34 hv34 (by decide) rfl (by decide) rfl (by decide)
              have t169 := fO_keep (a := 1) (ci := 6) (n := 5) (k := 2) hO34 hO43 hv43 (by decide) rfl (by decide) rfl (by decide)
              have t170 := fO_keep (a := 1) (ci := 6) (n := 5) (k := 2) hO43 hO50 hv50 (by decide) rfl (by decide) rfl (by decide)
              refine ur_inl rfl (rcv_of hc147) (Nat.le_of_ble_eq_true rfl) (Nat.le_of_ble_eq_true rfl) (sd_X2_passOf hO104 g167 (hu104.tm (hu64.tm (hu50.tm (hu43.tm (hu34.tm t1 (by decide)) (by decide)) (by decide)) (by decide)) (by decide)) _ (by show -60 ≤ x143.toInt ∧ x143.toInt ≤ 60; omega) (fun w171 hr172 => ?_))
              obtain ⟨x173, rfl, f174⟩ := hr172
              show uRun _ (uCall Mt _) _ 103 (_, [(.inl x173), (.inr (.inr (some 1)))], _, _, _)
              have q175 : qP h104 a1 = (qP h0 a1) := (qP_e (fC_un hO0 (hu34.tr (hu43.tr (hu50.tr (hu64.tr hu104)))) g1 t1 (by decide) (by decide)))
              have t176 : gI h104 (qP h0 a1) (60 + (x99.toInt + 1)) = x173.toInt := by rw [show 60 + (x99.toInt + 1) = x143.toInt + 60 by omega, ← q175]; exact f174.symm
              have t177 := px107.1 (-(x99.toInt + 1)) (by omega) (by omega)
              rw [show 60 - -(x99.toInt + 1) = 60 + (x99.toInt + 1) by omega] at t177
              rw [t176] at t177
              refine ur_ldA rfl rfl ?_
              refine ur_get rfl hc147 rfl ?_
              have t178 := fO_of (k := 0) hc147 rfl
              have t179 := fO_of (k := 1) hc147 rfl
              have t180 := fO_of (k := 8) hc147 rfl
              have t181 := fO_of (k := 9) hc147 rfl
              have t182 := fO_of (k := 2) (hu104.ko (n := 5) (hu64.ko (n := 5) hc58 rfl (wid_f (by decide)) (by decide)) rfl (wid_f (by decide)) (by decide)) rfl
              refine ur_inl rfl (rcv_of (hu104.ko (n := 5) (hu64.ko (n := 5) hc58 rfl (wid_f (by decide)) (by decide)) rfl (wid_f (by decide)) (by decide))) (Nat.le_of_ble_eq_true rfl) (Nat.le_of_ble_eq_true rfl) (sd_X6_passAhead hO104 _ (by show 0 ≤ x173.toInt ∧ x173.toInt ≤ 999999; omega) _ (by show -100000 ≤ f149.toInt ∧ f149.toInt ≤ 100000; omega) (pre0.un hO0 hO104 (hu34.tr (hu43.tr (hu50.tr (hu64.tr hu104)))) (by decide) (by decide) (by decide)) (fun w183 hr184 => ?_))
              obtain ⟨x185, rfl, f186⟩ := hr184
              show uRun _ (uCall Mt _) _ 110 (_, [(.inl x185)], _, _, _)
              have t187 : PAr (nxF (gI h0 2) (gI h0 3) (fO h0 1 2) (fO h0 a1 1)) x173.toInt (x173.toInt - (fO h0 a1 1)) x185.toInt := by have e := f186.1; rw [show f149.toInt = (fO h0 a1 1) by omega] at e; rw [nxC_un hO0 hO104 (hu34.tr (hu43.tr (hu50.tr (hu64.tr hu104)))) (by decide) (by decide) (by decide)] at e; exact e
              refine ur_svIk [some (.inr (.inr (some 1))), some (.inr (.inr (some a1))), some (.inl x99), some (.inl x185), u54] rfl rfl ?_
              refine ur_ldI rfl rfl ?_
              refine ur_callv rfl rfl (Nat.le_of_ble_eq_true rfl) (Nat.le_of_ble_eq_true rfl) rfl (sp_isDay _ _) ?_
              refine ur_neB rfl (fun c190 => ?_) (fun c190 => ?_)
              · have t191 := wi_toL c190 l_0 l_999999
                refine ur_ldA rfl rfl ?_
                refine ur_ldI rfl rfl ?_
                refine ur_ldI rfl rfl ?_
                refine ur_inl rfl (rcv_of hc147) (Nat.le_of_ble_eq_true rfl) (Nat.le_of_ble_eq_true rfl) (sd_X2_setPass hO104 g167 (hu104.tm (hu64.tm (hu50.tm (hu43.tm (hu34.tm t1 (by decide)) (by decide)) (by decide)) (by decide)) (by decide)) _ (by show -60 ≤ x99.toInt ∧ x99.toInt ≤ 60; omega) _ (fun w192 h195 hr193 hO195 hv195 hp194 => ?_))
                have hu195 : un [221, 21208, 21209] h104 h195 := hv195.mono (by decide)
                subst hr193
                show uRun _ (uCall Mt _) _ 127 (_, [], _, _, _)
                have q196 : qP h104 a1 = (qP h0 a1) := (qP_e (fC_un hO0 (hu34.tr (hu43.tr (hu50.tr (hu64.tr hu104)))) g1 t1 (by decide) (by decide)))
                have w197 : wI h104 h195 (qP h0 a1) ((arI h104 (qP h0 a1)).set ((x99 : Int32).toInt + 60).toNat x185) := by have w := hp194; rw [q196] at w; exact w
                have l198 : (arI h104 (qP h0 a1)).length = 121 := by rw [← q196]; exact qP_len hO104 (hu104.tm (hu64.tm (hu50.tm (hu43.tm (hu34.tm t1 (by decide)) (by decide)) (by decide)) (by decide)) (by decide))
                refine ur_ldA rfl rfl ?_
                refine ur_ldI rfl rfl ?_
                have t199 := fO_of (k := 0) (hv195.ko (n := 14) hc147 rfl (wid_c g167) (by decide)) rfl
                have t200 := fO_of (k := 1) (hv195.ko (n := 14) hc147 rfl (wid_c g167) (by decide)) rfl
                have t201 := fO_of (k := 8) (hv195.ko (n := 14) hc147 rfl (wid_c g167) (by decide)) rfl
                have t202 := fO_of (k := 9) (hv195.ko (n := 14) hc147 rfl (wid_c g167) (by decide)) rfl
                refine ur_putV (W := [21208]) (fs' := [(.inl f148), (.inl f149), (.inl f150), (.inl f151), (.inl f152), (.inl f153), (.inl f154), (.inl f155), (.inl x99), (.inl f157), (.inr (.inr (some q158))), (.inr (.inr (some q159))), (.inr (.inr o160)), (.inr (.inr (some q161)))]) rfl hO195 (hv195.ko (n := 14) hc147 rfl (wid_c g167) (by decide)) (Nat.le_of_ble_eq_true rfl) rfl rfl ⟨g167, _, _, _, _, _, _, _, _, _, _, _, _, _, _, rfl, ⟨k162.1, (hu195.tm k162.2 (by decide))⟩, ⟨k163.1, (hu195.tm k163.2 (by decide))⟩, (fun z e => ⟨(k164 z e).1, (hu195.tm (k164 z e).2 (by decide))⟩), ⟨k165.1, (hu195.tm k165.2 (by decide))⟩, by omega⟩ rfl (Or.inr (by show 1000 + 100 * wid a1 (102, 14) + 8 ∈ _; rw [(wid_c g167)]; decide)) (fun h204 hO204 hv204 d203 hc205 => ?_)
                have hu204 : un [221, 21208, 21209] h195 h204 := hv204.mono (by decide)
                refine ur_incV (fun z => [some (.inr (.inr (some 1))), some (.inr (.inr (some a1))), some (.inl z), some (.inl x185), u54]) rfl rfl (fun _ => rfl) (fun x206 e207 => ?_)
                have t208 := ti_add e207 (by omega) (by omega)
                refine ur_go rfl ?_
                have hc209 := ((d203 _ (ne_tg (hO204.fix 1 (by decide) rfl) (hu204.tm (hu195.tm (hu104.tm (hu64.tm (hu50.tm (hu43.tm (hu34.tm t1 (by decide)) (by decide)) (by decide)) (by decide)) (by decide)) (by decide)) (by decide)) (by decide))).trans (hv195.ko (n := 5) (hu104.ko (n := 5) (hu64.ko (n := 5) hc58 rfl (wid_f (by decide)) (by decide)) rfl (wid_f (by decide)) (by decide)) rfl (wid_f (by decide)) (by decide)))
                have t210 := fO_of (k := 2) hc209 rfl
                have t211 := fO_of (k := 0) hc205 rfl
                have t212 := fO_of (k := 1) hc205 rfl
                have t213 := fO_of (k := 8) hc205 rfl
                have t214 := fO_of (k := 9) hc205 rfl
                have z215 := any_r x206
                exact ih103 x206 _ _ hO204 (hu104.tr (hu195.tr hu204)) (by omega) (px105.tr ((K2.sq w197.2).tr (K2.sa d203))) (rk_c (k := x99.toInt) l198 px106 (by omega) w197.1 (arI_c (d203 _ hqz)) rfl (by omega)) (rk_b (k := x99.toInt) l198 px107 w197.1 (arI_c (d203 _ hqz)) rfl (by omega) t176 t187 (by omega) (by omega) (by omega)) (by rw [rk_u (k := x99.toInt) l198 rfl (by omega) w197.1 (arI_c (d203 _ hqz)) rfl (by omega)]; exact px108) (by omega)
              · have t216 := wi_noL c190 l_0 l_999999
                refine ur_go rfl ?_
                exact ur_ret0 rfl (hQ _ _ rfl hO104 (hu34.tr (hu43.tr (hu50.tr (hu64.tr hu104)))) (cf_ret (m := -(x99.toInt + 1)) (l := fO h64 a1 9) (by omega) (by omega) (qP_e (fC_un hO0 (hu34.tr (hu43.tr (hu50.tr (hu64.tr hu104)))) g1 t1 (by decide) (by decide))) (isRet_of px106 (by omega) px108 px107 (by omega) (Or.inr ⟨_, (by rw [show gI h104 (qP h0 a1) (60 - -(x99.toInt + 1)) = x173.toInt from (congrArg _ (by omega)).trans t176]; exact t187), by omega⟩))) px105)
        exact L101 _ (-1) (u53) _ hO64 un.rf (by omega) px65 ch98 (CHb_0 ch98 (by omega) (by omega)) el71 (Nat.lt_succ_self _)
      · have t217 := lt_no c69
        refine ur_ldA rfl rfl ?_
        refine ur_ldI rfl rfl ?_
        refine ur_push rfl ?_
        refine ur_binV rfl (fun x218 e219 => ?_)
        have z220 := any_r x52
        have t221 := ti_sub e219 (by omega) (by omega)
        obtain ⟨g242, f223, f224, f225, f226, f227, f228, f229, f230, f231, f232, q233, q234, o235, q236, hc222, k237, k238, k239, k240, k241⟩ := hO64.comet (hu64.tm (hu50.tm (hu43.tm (hu34.tm t1 (by decide)) (by decide)) (by decide)) (by decide))
        have t243 := fO_keep (a := 1) (ci := 6) (n := 5) (k := 2) hO0 hO34 hv34 (by decide) rfl (by decide) rfl (by decide)
        have t244 := fO_keep (a := 1) (ci := 6) (n := 5) (k := 2) hO34 hO43 hv43 (by decide) rfl (by decide) rfl (by decide)
        have t245 := fO_keep (a := 1) (ci := 6) (n := 5) (k := 2) hO43 hO50 hv50 (by decide) rfl (by decide) rfl (by decide)
        refine ur_inl rfl (rcv_of hc222) (Nat.le_of_ble_eq_true rfl) (Nat.le_of_ble_eq_true rfl) (sd_X2_passOf hO64 g242 (hu64.tm (hu50.tm (hu43.tm (hu34.tm t1 (by decide)) (by decide)) (by decide)) (by decide)) _ (by show -60 ≤ x218.toInt ∧ x218.toInt ≤ 60; omega) (fun w246 hr247 => ?_))
        obtain ⟨x248, rfl, f249⟩ := hr247
        show uRun _ (uCall Mt _) _ 39 (_, [(.inl x248)], _, _, _)
        have q250 : qP h64 a1 = (qP h0 a1) := (qP_e (fC_un hO0 (hu34.tr (hu43.tr (hu50.tr hu64))) g1 t1 (by decide) (by decide)))
        have t251 : gI h64 (qP h0 a1) (60 + (x52.toInt - 1)) = x248.toInt := by rw [show 60 + (x52.toInt - 1) = x218.toInt + 60 by omega, ← q250]; exact f249.symm
        have t252 := px66.2.1 (x52.toInt - 1) (by omega) (by omega)
        rw [t251] at t252
        refine ur_svIk [some (.inr (.inr (some 1))), some (.inr (.inr (some a1))), some (.inl x52), some (.inl x248), u54] rfl rfl ?_
        refine ur_ldI rfl rfl ?_
        refine ur_ldA rfl rfl ?_
        refine ur_get rfl hc222 rfl ?_
        have t253 := fO_of (k := 0) hc222 rfl
        have t254 := fO_of (k := 1) hc222 rfl
        have t255 := fO_of (k := 8) hc222 rfl
        have t256 := fO_of (k := 9) hc222 rfl
        refine ur_binV rfl (fun x257 e258 => ?_)
        have z259 := any_r x248
        have z260 := any_r f224
        have t261 := ti_add e258 (by omega) (by omega)
        refine ur_ldA rfl rfl ?_
        refine ur_ldI rfl rfl ?_
        refine ur_ldA rfl rfl ?_
        have t262 := fO_of (k := 2) (hu64.ko (n := 5) hc58 rfl (wid_f (by decide)) (by decide)) rfl
        refine ur_inl rfl (rcv_of (hu64.ko (n := 5) hc58 rfl (wid_f (by decide)) (by decide))) (Nat.le_of_ble_eq_true rfl) (Nat.le_of_ble_eq_true rfl) (sd_X6_allGreats hO64  (fun w263 hr264 => ?_))
        obtain ⟨x265, rfl, f266⟩ := hr264
        show uRun _ (uCall Mt _) _ 52 (_, [(.inl x265), (.inl x248), (.inr (.inr (some 1))), (.inl x257)], _, _, _)
        refine ur_inl rfl (rcv_of (hu64.ko (n := 5) hc58 rfl (wid_f (by decide)) (by decide))) (Nat.le_of_ble_eq_true rfl) (Nat.le_of_ble_eq_true rfl) (sd_X6_pulledFrom hO64 _ (by show 0 ≤ x248.toInt ∧ x248.toInt ≤ 999999; omega) _ (pre0.un hO0 hO64 (hu34.tr (hu43.tr (hu50.tr hu64))) (by decide) (by decide) (by decide)) (fun w267 hr268 => ?_))
        obtain ⟨x269, rfl, f270⟩ := hr268
        show uRun _ (uCall Mt _) _ 55 (_, [(.inl x269), (.inl x257)], _, _, _)
        have t271 : nxF (gI h0 2) (gI h0 3) (fO h0 1 2) (fO h0 a1 1) x248.toInt = x248.toInt + (fO h0 a1 1) + x269.toInt := by have e := nx_of (sp := (fO h0 a1 1)) f270.1 f266.1; rw [nxC_un hO0 hO64 (hu34.tr (hu43.tr (hu50.tr hu64))) (by decide) (by decide) (by decide) (fO h0 a1 1)] at e; exact e
        refine ur_binV rfl (fun x272 e273 => ?_)
        have z274 := any_r x257
        have z275 := any_r x269
        have t276 := ti_add e273 (by omega) (by omega)
        refine ur_svIk [some (.inr (.inr (some 1))), some (.inr (.inr (some a1))), some (.inl x52), some (.inl x248), some (.inl x272)] rfl rfl ?_
        refine ur_ldI rfl rfl ?_
        refine ur_callv rfl rfl (Nat.le_of_ble_eq_true rfl) (Nat.le_of_ble_eq_true rfl) rfl (sp_isDay _ _) ?_
        refine ur_neB rfl (fun c279 => ?_) (fun c279 => ?_)
        · have t280 := wi_toL c279 l_0 l_999999
          refine ur_ldA rfl rfl ?_
          refine ur_ldI rfl rfl ?_
          refine ur_ldI rfl rfl ?_
          refine ur_inl rfl (rcv_of hc222) (Nat.le_of_ble_eq_true rfl) (Nat.le_of_ble_eq_true rfl) (sd_X2_setPass hO64 g242 (hu64.tm (hu50.tm (hu43.tm (hu34.tm t1 (by decide)) (by decide)) (by decide)) (by decide)) _ (by show -60 ≤ x52.toInt ∧ x52.toInt ≤ 60; omega) _ (fun w281 h284 hr282 hO284 hv284 hp283 => ?_))
          have hu284 : un [221, 21208, 21209] h64 h284 := hv284.mono (by decide)
          subst hr282
          show uRun _ (uCall Mt _) _ 76 (_, [], _, _, _)
          have q285 : qP h64 a1 = (qP h0 a1) := (qP_e (fC_un hO0 (hu34.tr (hu43.tr (hu50.tr hu64))) g1 t1 (by decide) (by decide)))
          have w286 : wI h64 h284 (qP h0 a1) ((arI h64 (qP h0 a1)).set ((x52 : Int32).toInt + 60).toNat x272) := by have w := hp283; rw [q285] at w; exact w
          have l287 : (arI h64 (qP h0 a1)).length = 121 := by rw [← q285]; exact qP_len hO64 (hu64.tm (hu50.tm (hu43.tm (hu34.tm t1 (by decide)) (by decide)) (by decide)) (by decide))
          refine ur_ldA rfl rfl ?_
          refine ur_ldI rfl rfl ?_
          have t288 := fO_of (k := 0) (hv284.ko (n := 14) hc222 rfl (wid_c g242) (by decide)) rfl
          have t289 := fO_of (k := 1) (hv284.ko (n := 14) hc222 rfl (wid_c g242) (by decide)) rfl
          have t290 := fO_of (k := 8) (hv284.ko (n := 14) hc222 rfl (wid_c g242) (by decide)) rfl
          have t291 := fO_of (k := 9) (hv284.ko (n := 14) hc222 rfl (wid_c g242) (by decide)) rfl
          refine ur_putV (W := [21209]) (fs' := [(.inl f223), (.inl f224), (.inl f225), (.inl f226), (.inl f227), (.inl f228), (.inl f229), (.inl f230), (.inl f231), (.inl x52), (.inr (.inr (some q233))), (.inr (.inr (some q234))), (.inr (.inr o235)), (.inr (.inr (some q236)))]) rfl hO284 (hv284.ko (n := 14) hc222 rfl (wid_c g242) (by decide)) (Nat.le_of_ble_eq_true rfl) rfl rfl ⟨g242, _, _, _, _, _, _, _, _, _, _, _, _, _, _, rfl, ⟨k237.1, (hu284.tm k237.2 (by decide))⟩, ⟨k238.1, (hu284.tm k238.2 (by decide))⟩, (fun z e => ⟨(k239 z e).1, (hu284.tm (k239 z e).2 (by decide))⟩), ⟨k240.1, (hu284.tm k240.2 (by decide))⟩, by omega⟩ rfl (Or.inr (by show 1000 + 100 * wid a1 (102, 14) + 9 ∈ _; rw [(wid_c g242)]; decide)) (fun h293 hO293 hv293 d292 hc294 => ?_)
          have hu293 : un [221, 21208, 21209] h284 h293 := hv293.mono (by decide)
          refine ur_incV (fun z => [some (.inr (.inr (some 1))), some (.inr (.inr (some a1))), some (.inl z), some (.inl x248), some (.inl x272)]) rfl rfl (fun _ => rfl) (fun x295 e296 => ?_)
          have t297 := ti_add e296 (by omega) (by omega)
          refine ur_go rfl ?_
          have hc298 := ((d292 _ (ne_tg (hO293.fix 1 (by decide) rfl) (hu293.tm (hu284.tm (hu64.tm (hu50.tm (hu43.tm (hu34.tm t1 (by decide)) (by decide)) (by decide)) (by decide)) (by decide)) (by decide)) (by decide))).trans (hv284.ko (n := 5) (hu64.ko (n := 5) hc58 rfl (wid_f (by decide)) (by decide)) rfl (wid_f (by decide)) (by decide)))
          have t299 := fO_of (k := 2) hc298 rfl
          have t300 := fO_of (k := 0) hc294 rfl
          have t301 := fO_of (k := 1) hc294 rfl
          have t302 := fO_of (k := 8) hc294 rfl
          have t303 := fO_of (k := 9) hc294 rfl
          have z304 := any_r x295
          exact ih57 x295 _ _ _ hO293 (hu64.tr (hu284.tr hu293)) (by omega) (px65.tr ((K2.sq w286.2).tr (K2.sa d292))) (rk_f (k := x52.toInt) l287 px66 w286.1 (arI_c (d292 _ hqz)) rfl (by omega) t251 (by omega) (by omega) (by omega) (by omega)) (by omega)
        · have t305 := wi_noL c279 l_0 l_999999
          refine ur_go rfl ?_
          have el306 : (fO h64 a1 9) = 60 ∨ ¬ (0 ≤ nxF (gI h0 2) (gI h0 3) (fO h0 1 2) (fO h0 a1 1) (gI h64 (qP h0 a1) (60 + (fO h64 a1 9))) ∧ nxF (gI h0 2) (gI h0 3) (fO h0 1 2) (fO h0 a1 1) (gI h64 (qP h0 a1) (60 + (fO h64 a1 9))) ≤ 999999) := Or.inr (by have q : gI h64 (qP h0 a1) (60 + (fO h64 a1 9)) = x248.toInt := (congrArg _ (by omega)).trans t251; rw [q]; omega)
          have ch307 : CHf (nxF (gI h0 2) (gI h0 3) (fO h0 1 2) (fO h0 a1 1)) (gI h64 (qP h0 a1)) (fO h0 a1 0) (fO h64 a1 9) := by have e := px66; rw [show x52.toInt - 1 = (fO h64 a1 9) by omega] at e; exact e
          refine ur_push rfl ?_
          refine ur_svIk [some (.inr (.inr (some 1))), some (.inr (.inr (some a1))), some (.inl (-1)), some (.inl x248), some (.inl x272)] rfl rfl ?_
          have L310 : ∀ (m311 : Nat) (x308 : Int32) (u309 : Option aV) (h313 : aH) , OK h313 → un [221, 21208, 21209] h64 h313 → ((-61 ≤ x308.toInt ∧ x308.toInt ≤ -1) ∧ fO h313 a1 0 = fO h0 a1 0 ∧ fO h313 a1 1 = fO h0 a1 1 ∧ fO h313 a1 8 = x308.toInt + 1 ∧ fO h313 a1 9 = fO h64 a1 9) → (K2 h0 h313 a1 (qP h0 a1)) → (CHf (nxF (gI h0 2) (gI h0 3) (fO h0 1 2) (fO h0 a1 1)) (gI h313 (qP h0 a1)) (fO h0 a1 0) (fO h64 a1 9)) → (CHb (nxF (gI h0 2) (gI h0 3) (fO h0 1 2) (fO h0 a1 1)) (gI h313 (qP h0 a1)) (fO h0 a1 1) (-(x308.toInt + 1))) → ((fO h64 a1 9 = 60 ∨ ¬ (0 ≤ nxF (gI h0 2) (gI h0 3) (fO h0 1 2) (fO h0 a1 1) (gI h313 (qP h0 a1) (60 + (fO h64 a1 9))) ∧ nxF (gI h0 2) (gI h0 3) (fO h0 1 2) (fO h0 a1 1) (gI h313 (qP h0 a1) (60 + (fO h64 a1 9))) ≤ 999999))) → ((x308.toInt + 62).toNat) < m311 → uRun oX6_reckonReturns (uCall Mt (d + 3)) Q 89 ([some (.inr (.inr (some 1))), some (.inr (.inr (some a1))), some (.inl x308), u309, some (.inl x272)], [], h313, kc, ks) := by
            intro m311
            induction m311 with
            | zero => intro x308 u309 h313 hO313 hu313 iv318 px314 px315 px316 px317 mm319; omega
            | succ m311 ih312 =>
              intro x308 u309 h313 hO313 hu313 iv318 px314 px315 px316 px317 mm319
              refine ur_ldI rfl rfl ?_
              refine ur_push rfl ?_
              refine ur_if2 rfl (fun c320 => ?_) (fun c320 => ?_)
              · have t321 := lt_to c320
                have t322 := fO_of (k := 2) (hu313.ko (n := 5) (hu64.ko (n := 5) hc58 rfl (wid_f (by decide)) (by decide)) rfl (wid_f (by decide)) (by decide)) rfl
                obtain ⟨g343, f324, f325, f326, f327, f328, f329, f330, f331, f332, f333, q334, q335, o336, q337, hc323, k338, k339, k340, k341, k342⟩ := hO313.comet (hu313.tm (hu64.tm (hu50.tm (hu43.tm (hu34.tm t1 (by decide)) (by decide)) (by decide)) (by decide)) (by decide))
                have t344 := fO_of (k := 0) hc323 rfl
                have t345 := fO_of (k := 1) hc323 rfl
                have t346 := fO_of (k := 8) hc323 rfl
                have t347 := fO_of (k := 9) hc323 rfl
                exact ur_ret0 rfl (hQ _ _ rfl hO313 (hu34.tr (hu43.tr (hu50.tr (hu64.tr hu313)))) (cf_ret (m := -(x308.toInt + 1)) (l := fO h64 a1 9) (by omega) (by omega) (qP_e (fC_un hO0 (hu34.tr (hu43.tr (hu50.tr (hu64.tr hu313)))) g1 t1 (by decide) (by decide))) (isRet_of px315 (by omega) px317 px316 (by omega) (Or.inl (by omega)))) px314)
              · have t348 := lt_no c320
                refine ur_ldA rfl rfl ?_
                refine ur_ldA rfl rfl ?_
                refine ur_ldI rfl rfl ?_
                refine ur_push rfl ?_
                refine ur_binV rfl (fun x349 e350 => ?_)
                have z351 := any_r x308
                have t352 := ti_add e350 (by omega) (by omega)
                obtain ⟨g373, f354, f355, f356, f357, f358, f359, f360, f361, f362, f363, q364, q365, o366, q367, hc353, k368, k369, k370, k371, k372⟩ := hO313.comet (hu313.tm (hu64.tm (hu50.tm (hu43.tm (hu34.tm t1 (by decide)) (by decide)) (by decide)) (by decide)) (by decide))
                refine ur_inl rfl (rcv_of hc353) (Nat.le_of_ble_eq_true rfl) (Nat.le_of_ble_eq_true rfl) (sd_X2_passOf hO313 g373 (hu313.tm (hu64.tm (hu50.tm (hu43.tm (hu34.tm t1 (by decide)) (by decide)) (by decide)) (by decide)) (by decide)) _ (by show -60 ≤ x349.toInt ∧ x349.toInt ≤ 60; omega) (fun w374 hr375 => ?_))
                obtain ⟨x376, rfl, f377⟩ := hr375
                show uRun _ (uCall Mt _) _ 103 (_, [(.inl x376), (.inr (.inr (some 1)))], _, _, _)
                have q378 : qP h313 a1 = (qP h0 a1) := (qP_e (fC_un hO0 (hu34.tr (hu43.tr (hu50.tr (hu64.tr hu313)))) g1 t1 (by decide) (by decide)))
                have t379 : gI h313 (qP h0 a1) (60 + (x308.toInt + 1)) = x376.toInt := by rw [show 60 + (x308.toInt + 1) = x349.toInt + 60 by omega, ← q378]; exact f377.symm
                have t380 := px316.1 (-(x308.toInt + 1)) (by omega) (by omega)
                rw [show 60 - -(x308.toInt + 1) = 60 + (x308.toInt + 1) by omega] at t380
                rw [t379] at t380
                refine ur_ldA rfl rfl ?_
                refine ur_get rfl hc353 rfl ?_
                have t381 := fO_of (k := 0) hc353 rfl
                have t382 := fO_of (k := 1) hc353 rfl
                have t383 := fO_of (k := 8) hc353 rfl
                have t384 := fO_of (k := 9) hc353 rfl
                have t385 := fO_of (k := 2) (hu313.ko (n := 5) (hu64.ko (n := 5) hc58 rfl (wid_f (by decide)) (by decide)) rfl (wid_f (by decide)) (by decide)) rfl
                refine ur_inl rfl (rcv_of (hu313.ko (n := 5) (hu64.ko (n := 5) hc58 rfl (wid_f (by decide)) (by decide)) rfl (wid_f (by decide)) (by decide))) (Nat.le_of_ble_eq_true rfl) (Nat.le_of_ble_eq_true rfl) (sd_X6_passAhead hO313 _ (by show 0 ≤ x376.toInt ∧ x376.toInt ≤ 999999; omega) _ (by show -100000 ≤ f355.toInt ∧ f355.toInt ≤ 100000; omega) (pre0.un hO0 hO313 (hu34.tr (hu43.tr (hu50.tr (hu64.tr hu313)))) (by decide) (by decide) (by decide)) (fun w386 hr387 => ?_))
                obtain ⟨x388, rfl, f389⟩ := hr387
                show uRun _ (uCall Mt _) _ 110 (_, [(.inl x388)], _, _, _)
                have t390 : PAr (nxF (gI h0 2) (gI h0 3) (fO h0 1 2) (fO h0 a1 1)) x376.toInt (x376.toInt - (fO h0 a1 1)) x388.toInt := by have e := f389.1; rw [show f355.toInt = (fO h0 a1 1) by omega] at e; rw [nxC_un hO0 hO313 (hu34.tr (hu43.tr (hu50.tr (hu64.tr hu313)))) (by decide) (by decide) (by decide)] at e; exact e
                refine ur_svIk [some (.inr (.inr (some 1))), some (.inr (.inr (some a1))), some (.inl x308), some (.inl x388), some (.inl x272)] rfl rfl ?_
                refine ur_ldI rfl rfl ?_
                refine ur_callv rfl rfl (Nat.le_of_ble_eq_true rfl) (Nat.le_of_ble_eq_true rfl) rfl (sp_isDay _ _) ?_
                refine ur_neB rfl (fun c393 => ?_) (fun c393 => ?_)
                · have t394 := wi_toL c393 l_0 l_999999
                  refine ur_ldA rfl rfl ?_
                  refine ur_ldI rfl rfl ?_
                  refine ur_ldI rfl rfl ?_
                  refine ur_inl rfl (rcv_of hc353) (Nat.le_of_ble_eq_true rfl) (Nat.le_of_ble_eq_true rfl) (sd_X2_setPass hO313 g373 (hu313.tm (hu64.tm (hu50.tm (hu43.tm (hu34.tm t1 (by decide)) (by decide)) (by decide)) (by decide)) (by decide)) _ (by show -60 ≤ x308.toInt ∧ x308.toInt ≤ 60; omega) _ (fun w395 h398 hr396 hO398 hv398 hp397 => ?_))
                  have hu398 : un [221, 21208, 21209] h313 h398 := hv398.mono (by decide)
                  subst hr396
                  show uRun _ (uCall Mt _) _ 127 (_, [], _, _, _)
                  have q399 : qP h313 a1 = (qP h0 a1) := (qP_e (fC_un hO0 (hu34.tr (hu43.tr (hu50.tr (hu64.tr hu313)))) g1 t1 (by decide) (by decide)))
                  have w400 : wI h313 h398 (qP h0 a1) ((arI h313 (qP h0 a1)).set ((x308 : Int32).toInt + 60).toNat x388) := by have w := hp397; rw [q399] at w; exact w
                  have l401 : (arI h313 (qP h0 a1)).length = 121 := by rw [← q399]; exact qP_len hO313 (hu313.tm (hu64.tm (hu50.tm (hu43.tm (hu34.tm t1 (by decide)) (by decide)) (by decide)) (by decide)) (by decide))
                  refine ur_ldA rfl rfl ?_
                  refine ur_ldI rfl rfl ?_
                  have t402 := fO_of (k := 0) (hv398.ko (n := 14) hc353 rfl (wid_c g373) (by decide)) rfl
                  have t403 := fO_of (k := 1) (hv398.ko (n := 14) hc353 rfl (wid_c g373) (by decide)) rfl
                  have t404 := fO_of (k := 8) (hv398.ko (n := 14) hc353 rfl (wid_c g373) (by decide)) rfl
                  have t405 := fO_of (k := 9) (hv398.ko (n := 14) hc353 rfl (wid_c g373) (by decide)) rfl
                  refine ur_putV (W := [21208]) (fs' := [(.inl f354), (.inl f355), (.inl f356), (.inl f357), (.inl f358), (.inl f359), (.inl f360), (.inl f361), (.inl x308), (.inl f363), (.inr (.inr (some q364))), (.inr (.inr (some q365))), (.inr (.inr o366)), (.inr (.inr (some q367)))]) rfl hO398 (hv398.ko (n := 14) hc353 rfl (wid_c g373) (by decide)) (Nat.le_of_ble_eq_true rfl) rfl rfl ⟨g373, _, _, _, _, _, _, _, _, _, _, _, _, _, _, rfl, ⟨k368.1, (hu398.tm k368.2 (by decide))⟩, ⟨k369.1, (hu398.tm k369.2 (by decide))⟩, (fun z e => ⟨(k370 z e).1, (hu398.tm (k370 z e).2 (by decide))⟩), ⟨k371.1, (hu398.tm k371.2 (by decide))⟩, by omega⟩ rfl (Or.inr (by show 1000 + 100 * wid a1 (102, 14) + 8 ∈ _; rw [(wid_c g373)]; decide)) (fun h407 hO407 hv407 d406 hc408 => ?_)
                  have hu407 : un [221, 21208, 21209] h398 h407 := hv407.mono (by decide)
                  refine ur_incV (fun z => [some (.inr (.inr (some 1))), some (.inr (.inr (some a1))), some (.inl z), some (.inl x388), some (.inl x272)]) rfl rfl (fun _ => rfl) (fun x409 e410 => ?_)
                  have t411 := ti_add e410 (by omega) (by omega)
                  refine ur_go rfl ?_
                  have hc412 := ((d406 _ (ne_tg (hO407.fix 1 (by decide) rfl) (hu407.tm (hu398.tm (hu313.tm (hu64.tm (hu50.tm (hu43.tm (hu34.tm t1 (by decide)) (by decide)) (by decide)) (by decide)) (by decide)) (by decide)) (by decide)) (by decide))).trans (hv398.ko (n := 5) (hu313.ko (n := 5) (hu64.ko (n := 5) hc58 rfl (wid_f (by decide)) (by decide)) rfl (wid_f (by decide)) (by decide)) rfl (wid_f (by decide)) (by decide)))
                  have t413 := fO_of (k := 2) hc412 rfl
                  have t414 := fO_of (k := 0) hc408 rfl
                  have t415 := fO_of (k := 1) hc408 rfl
                  have t416 := fO_of (k := 8) hc408 rfl
                  have t417 := fO_of (k := 9) hc408 rfl
                  have z418 := any_r x409
                  exact ih312 x409 _ _ hO407 (hu313.tr (hu398.tr hu407)) (by omega) (px314.tr ((K2.sq w400.2).tr (K2.sa d406))) (rk_c (k := x308.toInt) l401 px315 (by omega) w400.1 (arI_c (d406 _ hqz)) rfl (by omega)) (rk_b (k := x308.toInt) l401 px316 w400.1 (arI_c (d406 _ hqz)) rfl (by omega) t379 t390 (by omega) (by omega) (by omega)) (by rw [rk_u (k := x308.toInt) l401 rfl (by omega) w400.1 (arI_c (d406 _ hqz)) rfl (by omega)]; exact px317) (by omega)
                · have t419 := wi_noL c393 l_0 l_999999
                  refine ur_go rfl ?_
                  exact ur_ret0 rfl (hQ _ _ rfl hO313 (hu34.tr (hu43.tr (hu50.tr (hu64.tr hu313)))) (cf_ret (m := -(x308.toInt + 1)) (l := fO h64 a1 9) (by omega) (by omega) (qP_e (fC_un hO0 (hu34.tr (hu43.tr (hu50.tr (hu64.tr hu313)))) g1 t1 (by decide) (by decide))) (isRet_of px315 (by omega) px317 px316 (by omega) (Or.inr ⟨_, (by rw [show gI h313 (qP h0 a1) (60 - -(x308.toInt + 1)) = x376.toInt from (congrArg _ (by omega)).trans t379]; exact t390), by omega⟩))) px314)
          exact L310 _ (-1) (some (.inl x248)) _ hO64 un.rf (by omega) px65 ch307 (CHb_0 ch307 (by omega) (by omega)) el306 (Nat.lt_succ_self _)
  exact L55 _ 1 (none) (none) _ hO50 un.rf (by omega) (((K2.sq w36.2).tr (K2.sa d42)).tr (K2.sa d49)) (rk_0 (nx := nxF (gI h0 2) (gI h0 3) (fO h0 1 2) (fO h0 a1 1)) l37 w36.1 ((arI_c (d49 _ hqz)).trans (arI_c (d42 _ hqz))) (by omega) (by omega) (by omega) (by decide)).1 (Nat.lt_succ_self _)
end SKY3
