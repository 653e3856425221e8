/-! THE SKY: the pass ahead; printed by program but for its head -/
section SKY2
theorem nx_of {R P : Int → Int} {n sp t y : Int} {s : Int32} (h : PLr R P s t n y) (hs : s = agV n) : nxF R P n sp t = t + sp + y := by
  subst hs
  rw [nxF_eq]
  unfold nxF0
  rw [h.2]
/-- the best of the signed sums so far -/
def PAi (R P : Int → Int) (n sp t sg g : Int) : Prop := (g = -1 ∨ (0 ≤ g ∧ g < t ∧ nxF R P n sp g = t)) ∧ ∀ k : Int32, 0 ≤ k.toInt → k.toInt < sg → 0 ≤ t - sp - sgF P k n.toNat → t - sp - sgF P k n.toNat < t → nxF R P n sp (t - sp - sgF P k n.toNat) = t → t - sp - sgF P k n.toNat ≤ g
theorem PAi_0 {R P : Int → Int} {n sp t sg g : Int} (h0 : sg = 0) (h1 : g = -1) : PAi R P n sp t sg g := ⟨Or.inl h1, fun k k0 k1 _ _ _ => by omega⟩
theorem PAi_s {R P : Int → Int} {n sp t sg sg' g s c : Int} {k : Int32} (h : PAi R P n sp t sg g) (hs : SGr P k n s) (hk : k.toInt = sg) (hc : c = t - sp - s) (q : c < 0 ∨ t ≤ c ∨ c ≤ g ∨ nxF R P n sp c ≠ t) (e : sg' = sg + 1) : PAi R P n sp t sg' g := by
  refine ⟨h.1, fun k' k0 k1 a b d => ?_⟩
  by_cases z : k'.toInt < sg
  · exact h.2 k' k0 z a b d
  · have ek : k' = k := Int32.toInt_inj.mp (by omega)
    subst ek
    rw [hs.2, ← hc] at a b d ⊢
    rcases q with q | q | q | q
    · omega
    · omega
    · exact q
    · exact absurd d q
theorem PAi_t {R P : Int → Int} {n sp t sg sg' g s c : Int} {k : Int32} (h : PAi R P n sp t sg g) (hs : SGr P k n s) (hk : k.toInt = sg) (hc : c = t - sp - s) (q : 0 ≤ c ∧ c < t ∧ g < c) (x : nxF R P n sp c = t) (e : sg' = sg + 1) : PAi R P n sp t sg' c := by
  refine ⟨Or.inr ⟨q.1, q.2.1, x⟩, fun k' k0 k1 a b d => ?_⟩
  by_cases z : k'.toInt < sg
  · have := h.2 k' k0 z a b d
    omega
  · have ek : k' = k := Int32.toInt_inj.mp (by omega)
    subst ek
    rw [hs.2, ← hc]
    exact Int.le_refl _
theorem PAi_e1 {R P : Int → Int} {n sp t sg g x : Int} {y : Int32} (h : PAi R P n sp t sg g) (hn : 0 ≤ n ∧ n ≤ 4) (ey : y = agV n) (q : y.toInt < sg) (hg : g = -1) (hx : x = t - sp) : PAr (nxF R P n sp) t (t - sp) x := by
  subst ey
  have u := PA_sg hn h.1 (fun k k0 k1 => h.2 k k0 (by omega))
  rw [if_pos hg] at u
  rw [hx]
  exact u
theorem PAi_e2 {R P : Int → Int} {n sp t sg g : Int} {y : Int32} (h : PAi R P n sp t sg g) (hn : 0 ≤ n ∧ n ≤ 4) (ey : y = agV n) (q : y.toInt < sg) (hg : g ≠ -1) : PAr (nxF R P n sp) t (t - sp) g := by
  subst ey
  have u := PA_sg hn h.1 (fun k k0 k1 => h.2 k k0 (by omega))
  rw [if_neg hg] at u
  exact u
/-- from above: no day above u has its next pass on t -/
def PBi (nx : Int → Int) (t u : Int) : Prop := ∀ v : Int, u < v → v < t → nx v ≠ t
theorem PB_0 {R P : Int → Int} {n sp t u al : Int} (hP : ∀ j : Int, 0 ≤ j → j < n → 0 ≤ P j) (ha : SAr P n al) (q : u = t - 1 ∨ u = t - sp + al) : PBi (nxF R P n sp) t u := fun v v0 v1 e => by
  rcases q with q | q
  · omega
  · rw [nxF_eq] at e
    unfold nxF0 at e
    have b := plF_b (R := R) (P := P) (s := agV n) (t := v) (n := n.toNat) (fun j j0 j1 => hP j j0 (by omega))
    rw [ha.2] at b
    omega
theorem PB_s {nx : Int → Int} {t u u' : Int} (h : PBi nx t u) (q : nx u ≠ t) (e : u' = u - 1) : PBi nx t u' := fun v v0 v1 => by
  by_cases z : v = u
  · rw [z]
    exact q
  · exact h v (by omega) v1
theorem PB_r {nx : Int → Int} {t d u : Int} (h : PBi nx t u) (q : 0 ≤ u ∧ u < t) (e : nx u = t) : PAr nx t d u := Or.inl ⟨q.1, q.2, e, h⟩
theorem PB_e {R P : Int → Int} {n sp t u al x : Int} (h : PBi (nxF R P n sp) t u) (hP : ∀ j : Int, 0 ≤ j → j < n → 0 ≤ P j) (ha : SAr P n al) (q : u < t - sp - al ∨ u < 0) (hx : x = t - sp) : PAr (nxF R P n sp) t (t - sp) x := Or.inr ⟨fun v v0 v1 e => by
  by_cases z : u < v
  · exact h v z v1 e
  · rw [nxF_eq] at e
    unfold nxF0 at e
    have b := plF_b (R := R) (P := P) (s := agV n) (t := v) (n := n.toNat) (fun j j0 j1 => hP j j0 (by omega))
    rw [ha.2] at b
    omega, hx⟩
/-- a day, or none -/
def dyF (v : Int) : Int := if 0 ≤ v ∧ v ≤ 999999 then v else -1
theorem dyF_y {v : Int} (h : 0 ≤ v ∧ v ≤ 999999) : dyF v = v := if_pos h
theorem dyF_n {v : Int} (h : ¬ (0 ≤ v ∧ v ≤ 999999)) : dyF v = -1 := if_neg h
/-- returns, forward and ahead, as far as they are known: m of them -/
def FWr (nx : Int → Int) (f : Int → Int) (p : Int) (m : Int) : Prop := f 0 = p ∧ ∀ k : Int, 0 ≤ k → k < m → (0 ≤ f k → f (k + 1) = dyF (nx (f k))) ∧ (f k < 0 → f (k + 1) = -1)
def BWr (nx : Int → Int) (sp : Int) (f : Int → Int) (m : Int) : Prop := ∀ k : Int, 0 ≤ k → k < m → (0 ≤ f (-k) → ∃ x, PAr nx (f (-k)) (f (-k) - sp) x ∧ f (-(k + 1)) = dyF x) ∧ (f (-k) < 0 → f (-(k + 1)) = -1)
def isRet (nx : Int → Int) (sp p : Int) (f : Int → Int) : Prop := FWr nx f p 60 ∧ BWr nx sp f 60
def isRe (nx : Int → Int) (sp p : Int) (f : Int → Int) (lo hi : Int) : Prop := isRet nx sp p f ∧ ∀ k : Int, lo ≤ k → k ≤ hi → 0 ≤ f k ∧ f k ≤ 999999
theorem isRet_u {nx : Int → Int} {sp p : Int} {f g : Int → Int} (h : isRet nx sp p f) (k : isRet nx sp p g) : ∀ j : Int, -60 ≤ j → j ≤ 60 → f j = g j := by
  have a : ∀ n : Nat, n ≤ 60 → f (n : Int) = g (n : Int) := by
    intro n
    induction n with
    | zero => exact fun _ => h.1.1.trans k.1.1.symm
    | succ n ih =>
      intro hn
      have e := ih (by omega)
      have h1 := h.1.2 (n : Int) (by omega) (by omega)
      have k1 := k.1.2 (n : Int) (by omega) (by omega)
      rw [← e] at k1
      show f ((n : Int) + 1) = g ((n : Int) + 1)
      by_cases q : 0 ≤ f (n : Int)
      · rw [h1.1 q, k1.1 q]
      · rw [h1.2 (by omega), k1.2 (by omega)]
  have b : ∀ n : Nat, n ≤ 60 → f (-(n : Int)) = g (-(n : Int)) := by
    intro n
    induction n with
    | zero => exact fun _ => h.1.1.trans k.1.1.symm
    | succ n ih =>
      intro hn
      have e := ih (by omega)
      have h1 := h.2 (n : Int) (by omega) (by omega)
      have k1 := k.2 (n : Int) (by omega) (by omega)
      rw [← e] at k1
      show f (-((n : Int) + 1)) = g (-((n : Int) + 1))
      by_cases q : 0 ≤ f (-(n : Int))
      · obtain ⟨x, hx, ex⟩ := h1.1 q
        obtain ⟨y, hy, ey⟩ := k1.1 q
        rw [ex, ey, PA_u hx hy]
      · rw [h1.2 (by omega), k1.2 (by omega)]
  intro j j0 j1
  by_cases q : 0 ≤ j
  · have := a j.toNat (by omega)
    rw [show ((j.toNat : Nat) : Int) = j by omega] at this
    exact this
  · have := b (-j).toNat (by omega)
    rw [show -(((-j).toNat : Nat) : Int) = j by omega] at this
    exact this
theorem FWr_0 {nx : Int → Int} {f : Int → Int} {p m : Int} (h : f 0 = p) (e : m ≤ 0) : FWr nx f p m := ⟨h, fun k k0 k1 => by omega⟩
theorem FWr_s {nx : Int → Int} {f g : Int → Int} {p m m' v : Int} (h : FWr nx f p m) (hm : 0 ≤ m) (e : ∀ k : Int, 0 ≤ k → k ≤ m → g k = f k) (hv : g (m + 1) = v) (q : (0 ≤ f m → v = dyF (nx (f m))) ∧ (f m < 0 → v = -1)) (e' : m' = m + 1) : FWr nx g p m' := by
  refine ⟨(e 0 (by omega) hm).trans h.1, fun k k0 k1 => ?_⟩
  by_cases z : k = m
  · rw [z, e m hm (by omega), hv]
    exact q
  · rw [e k k0 (by omega), e (k + 1) (by omega) (by omega)]
    exact h.2 k k0 (by omega)
theorem FWr_c {nx nx' : Int → Int} {f g : Int → Int} {p m : Int} (h : FWr nx f p m) (e : ∀ k : Int, 0 ≤ k → k ≤ m → g k = f k) (hm : 0 ≤ m) (en : ∀ k : Int, 0 ≤ k → k < m → 0 ≤ f k → nx' (f k) = nx (f k)) : FWr nx' g p m := by
  refine ⟨(e 0 (by omega) hm).trans h.1, fun k k0 k1 => ?_⟩
  rw [e k k0 (by omega), e (k + 1) (by omega) (by omega)]
  have := h.2 k k0 k1
  exact ⟨fun q => by rw [en k k0 k1 q]; exact this.1 q, this.2⟩
theorem BWr_0 {nx : Int → Int} {sp : Int} {f : Int → Int} {m : Int} (e : m ≤ 0) : BWr nx sp f m := fun k k0 k1 => by omega
theorem BWr_s {nx : Int → Int} {sp : Int} {f g : Int → Int} {m m' v : Int} (h : BWr nx sp f m) (hm : 0 ≤ m) (e : ∀ k : Int, 0 ≤ k → k ≤ m → g (-k) = f (-k)) (hv : g (-(m + 1)) = v) (q : (0 ≤ f (-m) → ∃ x, PAr nx (f (-m)) (f (-m) - sp) x ∧ v = dyF x) ∧ (f (-m) < 0 → v = -1)) (e' : m' = m + 1) : BWr nx sp g m' := fun k k0 k1 => by
  by_cases z : k = m
  · rw [z, e m hm (by omega), hv]
    exact q
  · rw [e k k0 (by omega), e (k + 1) (by omega) (by omega)]
    exact h k k0 (by omega)
set_option maxRecDepth 20000 in
set_option maxHeartbeats 4000000 in
theorem sd_X6_passAhead {d kc ks : Nat} {h0 : aH} {Q : Option aV → aH → Prop} (hO0 : OK h0) (a1 : Int32) (b1 : 0 ≤ a1.toInt ∧ a1.toInt ≤ 999999) (a2 : Int32) (b2 : -100000 ≤ a2.toInt ∧ a2.toInt ≤ 100000) (pre0 : RPc h0) (hQ : ∀ r, (∃ x : Int32, r = some (.inl x) ∧ (PAr (nxF (gI h0 2) (gI h0 3) (fO h0 1 2) a2.toInt) a1.toInt (a1.toInt - a2.toInt) x.toInt ∧ -100000 ≤ x.toInt ∧ x.toInt ≤ 1099999)) → Q r h0) : uCall Mt (d + 2) 68 [(.inr (.inr (some 1))), (.inl a1), (.inl a2)] h0 kc ks Q := by
  have l_m1 : ((-1) : Int32).toInt = -1 := by decide
  have l_0 : ((0) : Int32).toInt = 0 := by decide
  have l_1 : ((1) : Int32).toInt = 1 := by decide
  refine uc_ink [some (.inr (.inr (some 1))), some (.inl a1), some (.inl a2), none, none, none] mt_68 (Nat.le_of_ble_eq_true rfl) rfl ?_
  obtain ⟨f2, f3, hc1, k4⟩ := ok_1 hO0
  have t5 := fO_of (k := 2) hc1 rfl
  refine ur_push rfl ?_
  refine ur_svIk [some (.inr (.inr (some 1))), some (.inl a1), some (.inl a2), some (.inl (-1)), none, none] rfl rfl ?_
  refine ur_push rfl ?_
  refine ur_svIk [some (.inr (.inr (some 1))), some (.inl a1), some (.inl a2), some (.inl (-1)), some (.inl 0), none] rfl rfl ?_
  have L9 : ∀ (m10 : Nat) (x6 : Int32) (x7 : Int32) (u8 : Option aV) , ((-1 ≤ x6.toInt ∧ x6.toInt ≤ 999999) ∧ (0 ≤ x7.toInt ∧ x7.toInt ≤ 16)) → (PAi (gI h0 2) (gI h0 3) (fO h0 1 2) a2.toInt a1.toInt x7.toInt x6.toInt) → ((17 - x7.toInt).toNat) < m10 → uRun oX6_passAhead (uCall Mt (d + 1)) Q 5 ([some (.inr (.inr (some 1))), some (.inl a1), some (.inl a2), some (.inl x6), some (.inl x7), u8], [], h0, kc, ks) := by
    intro m10
    induction m10 with
    | zero => intro x6 x7 u8 iv13 px12 mm14; omega
    | succ m10 ih11 =>
      intro x6 x7 u8 iv13 px12 mm14
      refine ur_ldI rfl rfl ?_
      refine ur_ldA rfl rfl ?_
      refine ur_inl rfl (rcv_of hc1) (Nat.le_of_ble_eq_true rfl) (Nat.le_of_ble_eq_true rfl) (sd_X6_allGreats hO0  (fun w15 hr16 => ?_))
      obtain ⟨x17, rfl, f18⟩ := hr16
      show uRun _ (uCall Mt _) _ 11 (_, [(.inl x17), (.inl x7)], _, _, _)
      have z19 := any_r x7
      have z20 := any_r x17
      refine ur_if2 rfl (fun c21 => ?_) (fun c21 => ?_)
      · have t22 := lt_to c21
        refine ur_ldI rfl rfl ?_
        refine ur_push rfl ?_
        refine ur_if2 rfl (fun c23 => ?_) (fun c23 => ?_)
        · have t24 := ne_to c23
          refine ur_ldI rfl rfl ?_
          exact ur_ret rfl rfl (hQ _ ⟨_, rfl, ⟨PAi_e2 px12 (by omega) f18.1 (by omega) (by omega), by omega⟩⟩ )
        · have t25 := ne_no c23
          refine ur_ldI rfl rfl ?_
          refine ur_ldI rfl rfl ?_
          refine ur_binV rfl (fun x26 e27 => ?_)
          have z28 := any_r a1
          have z29 := any_r a2
          have t30 := ti_sub e27 (by omega) (by omega)
          refine ur_go rfl ?_
          exact ur_ret rfl rfl (hQ _ ⟨_, rfl, ⟨PAi_e1 px12 (by omega) f18.1 (by omega) (by omega) (by omega), by omega⟩⟩ )
      · have t31 := lt_no c21
        refine ur_ldI rfl rfl ?_
        refine ur_ldI rfl rfl ?_
        refine ur_binV rfl (fun x32 e33 => ?_)
        have z34 := any_r a1
        have z35 := any_r a2
        have t36 := ti_sub e33 (by omega) (by omega)
        refine ur_ldA rfl rfl ?_
        refine ur_ldI rfl rfl ?_
        refine ur_inl rfl (rcv_of hc1) (Nat.le_of_ble_eq_true rfl) (Nat.le_of_ble_eq_true rfl) (sd_X6_signedPulls hO0 _ pre0 (fun w37 hr38 => ?_))
        obtain ⟨x39, rfl, f40⟩ := hr38
        show uRun _ (uCall Mt _) _ 23 (_, [(.inl x39), (.inl x32)], _, _, _)
        refine ur_binV rfl (fun x41 e42 => ?_)
        have z43 := any_r x32
        have z44 := any_r x39
        have t45 := ti_sub e42 (by omega) (by omega)
        refine ur_svIk [some (.inr (.inr (some 1))), some (.inl a1), some (.inl a2), some (.inl x6), some (.inl x7), some (.inl x41)] rfl rfl ?_
        refine ur_ldI rfl rfl ?_
        refine ur_if1 rfl (fun c46 => ?_) (fun c46 => ?_)
        · have t47 := lt_to c46
          refine ur_incV (fun z => [some (.inr (.inr (some 1))), some (.inl a1), some (.inl a2), some (.inl x6), some (.inl z), some (.inl x41)]) rfl rfl (fun _ => rfl) (fun x48 e49 => ?_)
          have t50 := ti_add e49 (by omega) (by omega)
          refine ur_go rfl ?_
          have z51 := any_r x6
          have z52 := any_r x48
          exact ih11 x6 x48 _ (by omega) (PAi_s (s := x39.toInt) (c := x41.toInt) px12 f40.1 rfl (by omega) (by omega) (by omega)) (by omega)
        · have t53 := lt_no c46
          refine ur_ldI rfl rfl ?_
          refine ur_ldI rfl rfl ?_
          have z54 := any_r x41
          refine ur_if2 rfl (fun c55 => ?_) (fun c55 => ?_)
          · have t56 := le_to c55
            refine ur_incV (fun z => [some (.inr (.inr (some 1))), some (.inl a1), some (.inl a2), some (.inl x6), some (.inl z), some (.inl x41)]) rfl rfl (fun _ => rfl) (fun x57 e58 => ?_)
            have t59 := ti_add e58 (by omega) (by omega)
            refine ur_go rfl ?_
            have z60 := any_r x6
            have z61 := any_r x57
            exact ih11 x6 x57 _ (by omega) (PAi_s (s := x39.toInt) (c := x41.toInt) px12 f40.1 rfl (by omega) (by omega) (by omega)) (by omega)
          · have t62 := le_no c55
            refine ur_ldI rfl rfl ?_
            refine ur_ldI rfl rfl ?_
            have z63 := any_r x6
            refine ur_if2 rfl (fun c64 => ?_) (fun c64 => ?_)
            · have t65 := lt_to c64
              refine ur_ldI rfl rfl ?_
              refine ur_ldI rfl rfl ?_
              refine ur_binV rfl (fun x66 e67 => ?_)
              have t68 := ti_add e67 (by omega) (by omega)
              refine ur_ldA rfl rfl ?_
              refine ur_ldI rfl rfl ?_
              refine ur_ldA rfl rfl ?_
              refine ur_inl rfl (rcv_of hc1) (Nat.le_of_ble_eq_true rfl) (Nat.le_of_ble_eq_true rfl) (sd_X6_allGreats hO0  (fun w69 hr70 => ?_))
              obtain ⟨x71, rfl, f72⟩ := hr70
              show uRun _ (uCall Mt _) _ 57 (_, [(.inl x71), (.inl x41), (.inr (.inr (some 1))), (.inl x66)], _, _, _)
              refine ur_inl rfl (rcv_of hc1) (Nat.le_of_ble_eq_true rfl) (Nat.le_of_ble_eq_true rfl) (sd_X6_pulledFrom hO0 _ (by show 0 ≤ x41.toInt ∧ x41.toInt ≤ 999999; omega) _ pre0 (fun w73 hr74 => ?_))
              obtain ⟨x75, rfl, f76⟩ := hr74
              show uRun _ (uCall Mt _) _ 60 (_, [(.inl x75), (.inl x66)], _, _, _)
              have t77 : nxF (gI h0 2) (gI h0 3) (fO h0 1 2) a2.toInt x41.toInt = x41.toInt + a2.toInt + x75.toInt := nx_of f76.1 f72.1
              refine ur_binV rfl (fun x78 e79 => ?_)
              have z80 := any_r x66
              have z81 := any_r x75
              have t82 := ti_add e79 (by omega) (by omega)
              refine ur_ldI rfl rfl ?_
              have z83 := any_r x78
              refine ur_if2 rfl (fun c84 => ?_) (fun c84 => ?_)
              · have t85 := ne_to c84
                refine ur_incV (fun z => [some (.inr (.inr (some 1))), some (.inl a1), some (.inl a2), some (.inl x6), some (.inl z), some (.inl x41)]) rfl rfl (fun _ => rfl) (fun x86 e87 => ?_)
                have t88 := ti_add e87 (by omega) (by omega)
                refine ur_go rfl ?_
                have z89 := any_r x86
                exact ih11 x6 x86 _ (by omega) (PAi_s (s := x39.toInt) (c := x41.toInt) px12 f40.1 rfl (by omega) (by omega) (by omega)) (by omega)
              · have t90 := ne_no c84
                refine ur_ldI rfl rfl ?_
                refine ur_svIk [some (.inr (.inr (some 1))), some (.inl a1), some (.inl a2), some (.inl x41), some (.inl x7), some (.inl x41)] rfl rfl ?_
                refine ur_incV (fun z => [some (.inr (.inr (some 1))), some (.inl a1), some (.inl a2), some (.inl x41), some (.inl z), some (.inl x41)]) rfl rfl (fun _ => rfl) (fun x91 e92 => ?_)
                have t93 := ti_add e92 (by omega) (by omega)
                refine ur_go rfl ?_
                have z94 := any_r x91
                exact ih11 x41 x91 _ (by omega) (PAi_t (s := x39.toInt) (c := x41.toInt) px12 f40.1 rfl (by omega) (by omega) (by omega) (by omega)) (by omega)
            · have t95 := lt_no c64
              refine ur_go rfl ?_
              refine ur_incV (fun z => [some (.inr (.inr (some 1))), some (.inl a1), some (.inl a2), some (.inl x6), some (.inl z), some (.inl x41)]) rfl rfl (fun _ => rfl) (fun x96 e97 => ?_)
              have t98 := ti_add e97 (by omega) (by omega)
              refine ur_go rfl ?_
              have z99 := any_r x96
              exact ih11 x6 x96 _ (by omega) (PAi_s (s := x39.toInt) (c := x41.toInt) px12 f40.1 rfl (by omega) (by omega) (by omega)) (by omega)
  exact L9 _ (-1) 0 (none) (by omega) (PAi_0 (by omega) (by omega)) (Nat.lt_succ_self _)

set_option maxRecDepth 20000 in
set_option maxHeartbeats 4000000 in
theorem sd_X12_passAhead {d kc ks : Nat} {h0 : aH} {Q : Option aV → aH → Prop} (hO0 : OK h0) (hX0 : SX h0) (a1 : Int32) (b1 : 0 ≤ a1.toInt ∧ a1.toInt ≤ 999999) (a2 : Int32) (b2 : -100000 ≤ a2.toInt ∧ a2.toInt ≤ 100000) (pre0 : RPm h0) (hQ : ∀ r, (∃ x : Int32, r = some (.inl x) ∧ (PAr (nxF (gI h0 70) (gI h0 71) (fI h0 1) a2.toInt) a1.toInt (a1.toInt - a2.toInt) x.toInt ∧ -100000 ≤ x.toInt ∧ x.toInt ≤ 1099999)) → Q r h0) : uCall Mt (d + 2) 198 [(.inr (.inr (some 69))), (.inl a1), (.inl a2)] h0 kc ks Q := by
  have l_m1 : ((-1) : Int32).toInt = -1 := by decide
  have l_0 : ((0) : Int32).toInt = 0 := by decide
  have l_1 : ((1) : Int32).toInt = 1 := by decide
  refine uc_ink [some (.inr (.inr (some 69))), some (.inl a1), some (.inl a2), none, none, none] mt_198 (Nat.le_of_ble_eq_true rfl) rfl ?_
  obtain ⟨fs1, hc2⟩ := hO0.mod
  obtain ⟨f3, p4, t5⟩ := mf_1 hO0 hc2
  have t6 := fI_of hc2 p4
  refine ur_ldA rfl rfl ?_
  refine ur_inl rfl (rcv_of hc2) (Nat.le_of_ble_eq_true rfl) (Nat.le_of_ble_eq_true rfl) (sd_X12_pullsInAll hO0 pre0 (fun w7 hr8 => ?_))
  obtain ⟨x9, rfl, f10⟩ := hr8
  show uRun _ (uCall Mt _) _ 4 (_, [(.inl x9)], _, _, _)
  refine ur_svIk [some (.inr (.inr (some 69))), some (.inl a1), some (.inl a2), some (.inl x9), none, none] rfl rfl ?_
  refine ur_ldI rfl rfl ?_
  refine ur_ldI rfl rfl ?_
  refine ur_binV rfl (fun x11 e12 => ?_)
  have z13 := any_r a1
  have z14 := any_r a2
  have t15 := ti_sub e12 (by omega) (by omega)
  refine ur_ldI rfl rfl ?_
  refine ur_binV rfl (fun x16 e17 => ?_)
  have z18 := any_r x11
  have z19 := any_r x9
  have t20 := ti_add e17 (by omega) (by omega)
  refine ur_svIk [some (.inr (.inr (some 69))), some (.inl a1), some (.inl a2), some (.inl x9), some (.inl x16), none] rfl rfl ?_
  refine ur_ldI rfl rfl ?_
  refine ur_ldI rfl rfl ?_
  refine ur_push rfl ?_
  refine ur_binV rfl (fun x21 e22 => ?_)
  have t23 := ti_sub e22 (by omega) (by omega)
  have z24 := any_r x16
  have z25 := any_r x21
  refine ur_if2 rfl (fun c26 => ?_) (fun c26 => ?_)
  · have t27 := le_to c26
    refine ur_ldI rfl rfl ?_
    refine ur_svIk [some (.inr (.inr (some 69))), some (.inl a1), some (.inl a2), some (.inl x9), some (.inl x16), some (.inl x16)] rfl rfl ?_
    have L29 : ∀ (m30 : Nat) (x28 : Int32) , ((-300000 ≤ x28.toInt ∧ x28.toInt ≤ 999998) ∧ x28.toInt < a1.toInt) → (PBi (nxF (gI h0 70) (gI h0 71) (fI h0 1) a2.toInt) a1.toInt x28.toInt) → ((x28.toInt + 400000).toNat) < m30 → uRun oX12_passAhead (uCall Mt (d + 1)) Q 29 ([some (.inr (.inr (some 69))), some (.inl a1), some (.inl a2), some (.inl x9), some (.inl x16), some (.inl x28)], [], h0, kc, ks) := by
      intro m30
      induction m30 with
      | zero => intro x28 iv33 px32 mm34; omega
      | succ m30 ih31 =>
        intro x28 iv33 px32 mm34
        refine ur_ldI rfl rfl ?_
        refine ur_ldI rfl rfl ?_
        refine ur_ldI rfl rfl ?_
        refine ur_binV rfl (fun x35 e36 => ?_)
        have t37 := ti_sub e36 (by omega) (by omega)
        refine ur_ldI rfl rfl ?_
        refine ur_binV rfl (fun x38 e39 => ?_)
        have z40 := any_r x35
        have t41 := ti_sub e39 (by omega) (by omega)
        have z42 := any_r x28
        have z43 := any_r x38
        refine ur_if2 rfl (fun c44 => ?_) (fun c44 => ?_)
        · have t45 := lt_to c44
          refine ur_ldI rfl rfl ?_
          refine ur_ldI rfl rfl ?_
          refine ur_binV rfl (fun x46 e47 => ?_)
          have t48 := ti_sub e47 (by omega) (by omega)
          exact ur_ret rfl rfl (hQ _ ⟨_, rfl, ⟨PB_e px32 (fun j j0 j1 => (pre0 j j0 j1).2.1) f10.1 (by omega) (by omega), by omega⟩⟩ )
        · have t49 := lt_no c44
          refine ur_ldI rfl rfl ?_
          refine ur_if1 rfl (fun c50 => ?_) (fun c50 => ?_)
          · have t51 := lt_to c50
            refine ur_ldI rfl rfl ?_
            refine ur_ldI rfl rfl ?_
            refine ur_binV rfl (fun x52 e53 => ?_)
            have t54 := ti_sub e53 (by omega) (by omega)
            exact ur_ret rfl rfl (hQ _ ⟨_, rfl, ⟨PB_e px32 (fun j j0 j1 => (pre0 j j0 j1).2.1) f10.1 (by omega) (by omega), by omega⟩⟩ )
          · have t55 := lt_no c50
            refine ur_ldA rfl rfl ?_
            refine ur_ldI rfl rfl ?_
            refine ur_ldI rfl rfl ?_
            refine ur_ldA rfl rfl ?_
            refine ur_inl rfl (rcv_of hc2) (Nat.le_of_ble_eq_true rfl) (Nat.le_of_ble_eq_true rfl) (sd_X12_allGreats hO0  (fun w56 hr57 => ?_))
            obtain ⟨x58, rfl, f59⟩ := hr57
            show uRun _ (uCall Mt _) _ 52 (_, [(.inl x58), (.inl a2), (.inl x28), (.inr (.inr (some 69)))], _, _, _)
            refine ur_inl rfl (rcv_of hc2) (Nat.le_of_ble_eq_true rfl) (Nat.le_of_ble_eq_true rfl) (sd_X12_passBehind hO0 hX0 _ (by show 0 ≤ x28.toInt ∧ x28.toInt ≤ 999999; omega) _ (by show -100000 ≤ a2.toInt ∧ a2.toInt ≤ 100000; omega) _ pre0 (fun w60 hr61 => ?_))
            obtain ⟨x62, rfl, f63⟩ := hr61
            show uRun _ (uCall Mt _) _ 55 (_, [(.inl x62)], _, _, _)
            have t64 : nxF (gI h0 70) (gI h0 71) (fI h0 1) a2.toInt x28.toInt = x62.toInt := by have e := nx_of (sp := a2.toInt) f63.1 f59.1; omega
            refine ur_ldI rfl rfl ?_
            have z65 := any_r x62
            refine ur_if2 rfl (fun c66 => ?_) (fun c66 => ?_)
            · have t67 := ne_to c66
              refine ur_incV (fun z => [some (.inr (.inr (some 69))), some (.inl a1), some (.inl a2), some (.inl x9), some (.inl x16), some (.inl z)]) rfl rfl (fun _ => rfl) (fun x68 e69 => ?_)
              have t70 := ti_add e69 (by omega) (by omega)
              refine ur_go rfl ?_
              have z71 := any_r x68
              exact ih31 x68 (by omega) (PB_s px32 (by omega) (by omega)) (by omega)
            · have t72 := ne_no c66
              refine ur_ldI rfl rfl ?_
              exact ur_ret rfl rfl (hQ _ ⟨_, rfl, ⟨PB_r px32 (by omega) (by omega), by omega⟩⟩ )
    exact L29 _ x16 (by omega) (PB_0 (fun j j0 j1 => (pre0 j j0 j1).2.1) f10.1 (by omega)) (Nat.lt_succ_self _)
  · have t73 := le_no c26
    refine ur_ldI rfl rfl ?_
    refine ur_push rfl ?_
    refine ur_binV rfl (fun x74 e75 => ?_)
    have t76 := ti_sub e75 (by omega) (by omega)
    refine ur_svIk [some (.inr (.inr (some 69))), some (.inl a1), some (.inl a2), some (.inl x9), some (.inl x74), none] rfl rfl ?_
    refine ur_ldI rfl rfl ?_
    refine ur_svIk [some (.inr (.inr (some 69))), some (.inl a1), some (.inl a2), some (.inl x9), some (.inl x74), some (.inl x74)] rfl rfl ?_
    have L78 : ∀ (m79 : Nat) (x77 : Int32) , ((-300000 ≤ x77.toInt ∧ x77.toInt ≤ 999998) ∧ x77.toInt < a1.toInt) → (PBi (nxF (gI h0 70) (gI h0 71) (fI h0 1) a2.toInt) a1.toInt x77.toInt) → ((x77.toInt + 400000).toNat) < m79 → uRun oX12_passAhead (uCall Mt (d + 1)) Q 29 ([some (.inr (.inr (some 69))), some (.inl a1), some (.inl a2), some (.inl x9), some (.inl x74), some (.inl x77)], [], h0, kc, ks) := by
      intro m79
      induction m79 with
      | zero => intro x77 iv82 px81 mm83; omega
      | succ m79 ih80 =>
        intro x77 iv82 px81 mm83
        refine ur_ldI rfl rfl ?_
        refine ur_ldI rfl rfl ?_
        refine ur_ldI rfl rfl ?_
        refine ur_binV rfl (fun x84 e85 => ?_)
        have t86 := ti_sub e85 (by omega) (by omega)
        refine ur_ldI rfl rfl ?_
        refine ur_binV rfl (fun x87 e88 => ?_)
        have z89 := any_r x84
        have t90 := ti_sub e88 (by omega) (by omega)
        have z91 := any_r x77
        have z92 := any_r x87
        refine ur_if2 rfl (fun c93 => ?_) (fun c93 => ?_)
        · have t94 := lt_to c93
          refine ur_ldI rfl rfl ?_
          refine ur_ldI rfl rfl ?_
          refine ur_binV rfl (fun x95 e96 => ?_)
          have t97 := ti_sub e96 (by omega) (by omega)
          exact ur_ret rfl rfl (hQ _ ⟨_, rfl, ⟨PB_e px81 (fun j j0 j1 => (pre0 j j0 j1).2.1) f10.1 (by omega) (by omega), by omega⟩⟩ )
        · have t98 := lt_no c93
          refine ur_ldI rfl rfl ?_
          refine ur_if1 rfl (fun c99 => ?_) (fun c99 => ?_)
          · have t100 := lt_to c99
            refine ur_ldI rfl rfl ?_
            refine ur_ldI rfl rfl ?_
            refine ur_binV rfl (fun x101 e102 => ?_)
            have t103 := ti_sub e102 (by omega) (by omega)
            exact ur_ret rfl rfl (hQ _ ⟨_, rfl, ⟨PB_e px81 (fun j j0 j1 => (pre0 j j0 j1).2.1) f10.1 (by omega) (by omega), by omega⟩⟩ )
          · have t104 := lt_no c99
            refine ur_ldA rfl rfl ?_
            refine ur_ldI rfl rfl ?_
            refine ur_ldI rfl rfl ?_
            refine ur_ldA rfl rfl ?_
            refine ur_inl rfl (rcv_of hc2) (Nat.le_of_ble_eq_true rfl) (Nat.le_of_ble_eq_true rfl) (sd_X12_allGreats hO0  (fun w105 hr106 => ?_))
            obtain ⟨x107, rfl, f108⟩ := hr106
            show uRun _ (uCall Mt _) _ 52 (_, [(.inl x107), (.inl a2), (.inl x77), (.inr (.inr (some 69)))], _, _, _)
            refine ur_inl rfl (rcv_of hc2) (Nat.le_of_ble_eq_true rfl) (Nat.le_of_ble_eq_true rfl) (sd_X12_passBehind hO0 hX0 _ (by show 0 ≤ x77.toInt ∧ x77.toInt ≤ 999999; omega) _ (by show -100000 ≤ a2.toInt ∧ a2.toInt ≤ 100000; omega) _ pre0 (fun w109 hr110 => ?_))
            obtain ⟨x111, rfl, f112⟩ := hr110
            show uRun _ (uCall Mt _) _ 55 (_, [(.inl x111)], _, _, _)
            have t113 : nxF (gI h0 70) (gI h0 71) (fI h0 1) a2.toInt x77.toInt = x111.toInt := by have e := nx_of (sp := a2.toInt) f112.1 f108.1; omega
            refine ur_ldI rfl rfl ?_
            have z114 := any_r x111
            refine ur_if2 rfl (fun c115 => ?_) (fun c115 => ?_)
            · have t116 := ne_to c115
              refine ur_incV (fun z => [some (.inr (.inr (some 69))), some (.inl a1), some (.inl a2), some (.inl x9), some (.inl x74), some (.inl z)]) rfl rfl (fun _ => rfl) (fun x117 e118 => ?_)
              have t119 := ti_add e118 (by omega) (by omega)
              refine ur_go rfl ?_
              have z120 := any_r x117
              exact ih80 x117 (by omega) (PB_s px81 (by omega) (by omega)) (by omega)
            · have t121 := ne_no c115
              refine ur_ldI rfl rfl ?_
              exact ur_ret rfl rfl (hQ _ ⟨_, rfl, ⟨PB_r px81 (by omega) (by omega), by omega⟩⟩ )
    have z122 := any_r x74
    exact L78 _ x74 (by omega) (PB_0 (fun j j0 j1 => (pre0 j j0 j1).2.1) f10.1 (by omega)) (Nat.lt_succ_self _)
end SKY2
