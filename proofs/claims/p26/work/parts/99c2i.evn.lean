/-! EVENINGS and paths, printed by program but for its head -/
section EVN
def trn0 (w e q : Int) : Int := Int.tdiv (w * 90 * e) ((e.natAbs : Int) + q)
noncomputable def trn : Int → Int → Int → Int := Classical.choose (⟨trn0, rfl⟩ : ∃ f, f = trn0)
theorem trn_eq (w e q : Int) : trn w e q = trn0 w e q := by
  have h : trn = trn0 := Classical.choose_spec (⟨trn0, rfl⟩ : ∃ f, f = trn0)
  rw [h]
theorem trn_b {w e q : Int} (hw : w = 1 ∨ w = -1) (hq : 1 ≤ q) : -90 ≤ trn w e q ∧ trn w e q ≤ 90 := by
  rw [trn_eq]
  unfold trn0
  have h1 : w * 90 * e ≤ 90 * (e.natAbs : Int) ∧ -(w * 90 * e) ≤ 90 * (e.natAbs : Int) := by
    rcases hw with rfl | rfl <;> omega
  generalize w * 90 * e = n at *
  have hd0 : 0 < (e.natAbs : Int) + q := by omega
  have hd1 : (e.natAbs : Int) ≤ (e.natAbs : Int) + q := by omega
  generalize (e.natAbs : Int) + q = d at *
  have key : ∀ m : Int, 0 ≤ m → m ≤ 90 * d → 0 ≤ Int.tdiv m d ∧ Int.tdiv m d ≤ 90 := fun m m0 m1 => by
    rw [Int.tdiv_eq_ediv_of_nonneg m0]
    exact ⟨Int.ediv_nonneg m0 (by omega), Int.ediv_le_of_le_mul hd0 (by omega)⟩
  by_cases q0 : 0 ≤ n
  · have := key n q0 (by omega)
    omega
  · have := key (-n) (by omega) (by omega)
    rw [Int.neg_tdiv] at this
    omega
theorem trn_z {w e q x1 x2 dv z : Int32} (hw : w.toInt = 1 ∨ w.toInt = -1) (e1 : w * 90 = x1) (e2 : x1 * e = x2) (e3 : x2 / dv = z) (he : -1000000 ≤ e.toInt ∧ e.toInt ≤ 1000000) (hd : dv.toInt = (e.toInt.natAbs : Int) + q.toInt) (hq : 1 ≤ q.toInt) : z.toInt = trn w.toInt e.toInt q.toInt ∧ -90 ≤ z.toInt ∧ z.toInt ≤ 90 := by
  have hb := trn_b (e := e.toInt) (q := q.toInt) hw hq
  have m1 : x1.toInt = w.toInt * 90 := ti_mulL e1 (by decide) (by omega) (by omega)
  have m2 : x2.toInt = w.toInt * 90 * e.toInt := by
    rcases hw with h | h
    · rw [h] at m1 ⊢
      have := ti_mulR e2 m1 (by omega) (by omega)
      omega
    · rw [h] at m1 ⊢
      have := ti_mulR e2 m1 (by omega) (by omega)
      omega
  have k : z.toInt = trn w.toInt e.toInt q.toInt := by
    rw [← e3, Int32.toInt_div, m2, hd, show Int.tdiv (w.toInt * 90 * e.toInt) ((e.toInt.natAbs : Int) + q.toInt) = trn w.toInt e.toInt q.toInt from (trn_eq _ _ _).symm]
    generalize trn w.toInt e.toInt q.toInt = t at *
    unfold Int.bmod
    simp only []
    split <;> omega
  exact ⟨k, by omega, by omega⟩
def apL (m sl : Int) : Prop := (m ≤ sl ∧ -sl ≤ m) ∨ 360 - sl ≤ m ∨ m ≤ sl - 360
def EOK (d g : Int → Int) (t q w sl nd i : Int) : Prop := (-120 ≤ d i - t ∧ d i - t ≤ 120) ∧ (0 < i → apL ((nd + trn w (d i - t) q + 360) % 360 - g i) sl)
theorem EOK_iff {d g : Int → Int} {t q w sl nd i e tz m : Int} (h1 : d i - t = e) (h2 : tz = trn w e q) (h3 : (nd + tz + 360) % 360 - g i = m) : EOK d g t q w sl nd i ↔ (-120 ≤ e ∧ e ≤ 120) ∧ (0 < i → apL m sl) := by
  subst h1 h2 h3
  exact Iff.rfl
theorem EOK_0 {d g : Int → Int} {t q w sl nd i : Int} (h1 : -120 ≤ d i - t ∧ d i - t ≤ 120) (h2 : i ≤ 0) : EOK d g t q w sl nd i := ⟨h1, fun h => absurd h (by omega)⟩
noncomputable def NOD (d g : Int → Int) (t q w : Int) : Int := (g 0 - trn w (d 0 - t) q + 720) % 360
theorem NOD_r (d g : Int → Int) (t q w : Int) : 0 ≤ NOD d g t q w ∧ NOD d g t q w ≤ 359 := by
  unfold NOD
  generalize g 0 - trn w (d 0 - t) q + 720 = n
  omega
def EVQ (d g : Int → Int) (n t q w sl : Int) : Prop := ∀ i : Int, 0 ≤ i → i < n → EOK d g t q w sl (NOD d g t q w) i
theorem EVQ_c {d g d' g' : Int → Int} {n t q w sl : Int} (hn : 0 < n) (h : ∀ i : Int, 0 ≤ i → i < n → d' i = d i ∧ g' i = g i) (k : EVQ d g n t q w sl) : EVQ d' g' n t q w sl := fun i h0 h1 => by
  have e := k i h0 h1
  have n0 : NOD d' g' t q w = NOD d g t q w := by unfold NOD; rw [(h 0 (by omega) hn).1, (h 0 (by omega) hn).2]
  rw [n0]
  unfold EOK at e ⊢
  rw [(h i h0 h1).1, (h i h0 h1).2]
  exact e
def tJ (day j : Int) : Int := day - 60 + j / 20
def qJ (j : Int) : Int := 5 + 10 * ((j % 20) / 2)
def vJ (j : Int) : Int := 1 - 2 * (j % 2)
/-- path j of all that there are about a day lets the evenings -/
def PV (d g : Int → Int) (n day sl j : Int) : Prop := (0 ≤ tJ day j ∧ tJ day j ≤ 999999) ∧ EVQ d g n (tJ day j) (qJ j) (vJ j) sl
theorem PV_of {d g : Int → Int} {n day sl t q w : Int} (ht : 0 ≤ t ∧ t ≤ 999999) (h60 : day - 60 ≤ t) (hq : (5 ≤ q ∧ q ≤ 95) ∧ q % 10 = 5) (hw : w = 1 ∨ w = -1) : (PV d g n day sl (20 * (t - day + 60) + 2 * ((q - 5) / 10) + (1 - w) / 2) ↔ EVQ d g n t q w sl) ∧ tJ day (20 * (t - day + 60) + 2 * ((q - 5) / 10) + (1 - w) / 2) = t ∧ qJ (20 * (t - day + 60) + 2 * ((q - 5) / 10) + (1 - w) / 2) = q ∧ vJ (20 * (t - day + 60) + 2 * ((q - 5) / 10) + (1 - w) / 2) = w := by
  have e1 : tJ day (20 * (t - day + 60) + 2 * ((q - 5) / 10) + (1 - w) / 2) = t := by
    unfold tJ
    omega
  have e2 : qJ (20 * (t - day + 60) + 2 * ((q - 5) / 10) + (1 - w) / 2) = q := by
    unfold qJ
    omega
  have e3 : vJ (20 * (t - day + 60) + 2 * ((q - 5) / 10) + (1 - w) / 2) = w := by
    unfold vJ
    omega
  refine ⟨?_, e1, e2, e3⟩
  unfold PV
  rw [e1, e2, e3]
  exact ⟨fun h => h.2, fun h => ⟨ht, h⟩⟩
noncomputable def cn0 (P : Int → Prop) : Nat → Int
  | 0 => 0
  | n + 1 => cn0 P n + (@ite _ (P (n : Int)) (Classical.propDecidable _) 1 0)
/-- so many of those below j are P -/
def PI (P : Int → Prop) (j c : Int) : Prop := 0 ≤ j ∧ cn0 P j.toNat = c
theorem PI_0 {P : Int → Prop} : PI P 0 0 := ⟨Int.le_refl 0, rfl⟩
theorem PI_c {P : Int → Prop} {j j' c c' : Int} (h : PI P j c) (e : j' = j) (e2 : c' = c) : PI P j' c' := by
  rw [e, e2]
  exact h
theorem PI_t {P : Int → Prop} {j j' c c' : Int} (h : PI P j c) (p : P j) (e : j' = j + 1) (e2 : c' = c + 1) : PI P j' c' := by
  obtain ⟨h0, h1⟩ := h
  refine ⟨by omega, ?_⟩
  rw [show j'.toNat = j.toNat + 1 by omega]
  show cn0 P j.toNat + (@ite _ (P (j.toNat : Int)) (Classical.propDecidable _) 1 0) = c'
  rw [show ((j.toNat : Nat) : Int) = j by omega, if_pos p, h1, e2]
theorem PI_f {P : Int → Prop} {j j' c c' : Int} (h : PI P j c) (p : ¬ P j) (e : j' = j + 1) (e2 : c' = c) : PI P j' c' := by
  obtain ⟨h0, h1⟩ := h
  refine ⟨by omega, ?_⟩
  rw [show j'.toNat = j.toNat + 1 by omega]
  show cn0 P j.toNat + (@ite _ (P (j.toNat : Int)) (Classical.propDecidable _) 1 0) = c'
  rw [show ((j.toNat : Nat) : Int) = j by omega, if_neg p, h1, e2]
  exact Int.add_zero _
theorem PI_sk {P : Int → Prop} {j j' c c' : Int} (h : PI P j c) (l : j ≤ j') (p : ∀ k, j ≤ k → k < j' → ¬ P k) (e2 : c' = c) : PI P j' c' := by
  subst e2
  have g : ∀ n : Nat, j + (n : Int) ≤ j' → PI P (j + (n : Int)) c' := by
    intro n
    induction n with
    | zero => intro _; exact PI_c h (by omega) rfl
    | succ n ih =>
      intro hn
      exact PI_f (ih (by omega)) (p _ (by omega) (by omega)) (by omega) rfl
  exact PI_c (g (j' - j).toNat (by omega)) (by omega) rfl
theorem PI_u {P : Int → Prop} {j c c' : Int} (h : PI P j c) (g : PI P j c') : c = c' := h.2.symm.trans g.2
theorem PI_P {P P' : Int → Prop} {j c : Int} (h : PI P j c) (e : ∀ k, 0 ≤ k → k < j → (P k ↔ P' k)) : PI P' j c := by
  obtain ⟨h0, h1⟩ := h
  refine ⟨h0, ?_⟩
  rw [← h1]
  have g : ∀ n : Nat, (n : Int) ≤ j → cn0 P' n = cn0 P n := by
    intro n
    induction n with
    | zero => intro _; rfl
    | succ n ih =>
      intro hn
      show cn0 P' n + _ = cn0 P n + _
      rw [ih (by omega)]
      by_cases q : P (n : Int)
      · rw [if_pos q, if_pos ((e _ (by omega) (by omega)).mp q)]
      · rw [if_neg q, if_neg (fun z => q ((e _ (by omega) (by omega)).mpr z))]
  exact g _ (by omega)
theorem cn0_ge {P : Int → Prop} : ∀ n : Nat, 0 ≤ cn0 P n
  | 0 => Int.le_refl 0
  | n + 1 => by
    have := cn0_ge (P := P) n
    show 0 ≤ cn0 P n + _
    by_cases q : P (n : Int)
    · rw [if_pos q]; omega
    · rw [if_neg q]; omega
theorem PI_lt {P : Int → Prop} {i j : Int} (h : PI P j 0) (hi : 0 ≤ i) (hij : i < j) : ¬ P i := fun p => by
  have g : ∀ n : Nat, i < (n : Int) → 1 ≤ cn0 P n := by
    intro n
    induction n with
    | zero => intro hn; omega
    | succ n ih =>
      intro hn
      show 1 ≤ cn0 P n + _
      by_cases q : i = (n : Int)
      · have := cn0_ge (P := P) n
        rw [if_pos (q ▸ p)]
        omega
      · have := ih (by omega)
        by_cases k : P (n : Int)
        · rw [if_pos k]; omega
        · rw [if_neg k]; omega
  have := g j.toNat (by omega)
  have := h.2
  omega
/-- how many paths, or the first one's .. -/
def ANS (d g : Int → Int) (n day sl what x : Int) : Prop := (what = 0 → PI (PV d g n day sl) 2420 x) ∧ (what ≠ 0 → (∃ j, (0 ≤ j ∧ j < 2420) ∧ PV d g n day sl j ∧ PI (PV d g n day sl) j 0 ∧ (what = 1 → x = tJ day j) ∧ (what = 2 → x = qJ j) ∧ (what = 3 → x = vJ j) ∧ (what = 4 → x = NOD d g (tJ day j) (qJ j) (vJ j))) ∨ PI (PV d g n day sl) 2420 0 ∧ x = -2)
theorem ANS_0 {d g : Int → Int} {n day sl what x c : Int} (h : PI (PV d g n day sl) 2420 c) (h0 : what = 0) (e : x = c) : ANS d g n day sl what x := ⟨fun _ => e ▸ h, fun q => absurd h0 q⟩
theorem ANS_n {d g : Int → Int} {n day sl what x c : Int} (h : PI (PV d g n day sl) 2420 c) (h0 : what ≠ 0) (e : c = 0) (ex : x = -2) : ANS d g n day sl what x := ⟨fun q => absurd q h0, fun _ => Or.inr ⟨e ▸ h, ex⟩⟩
theorem ANS_f {d g : Int → Int} {n day sl what x t q w c : Int} (hv : PV d g n day sl (20 * (t - day + 60) + 2 * ((q - 5) / 10) + (1 - w) / 2)) (hp : PI (PV d g n day sl) (20 * (t - day + 60) + 2 * ((q - 5) / 10) + (1 - w) / 2) c) (hc : c = 0) (ht : 0 ≤ t ∧ t ≤ 999999) (h60 : day - 60 ≤ t ∧ t ≤ day + 60) (hq : (5 ≤ q ∧ q ≤ 95) ∧ q % 10 = 5) (hw : w = 1 ∨ w = -1) (h0 : what ≠ 0) (h1 : what = 1 → x = t) (h2 : what = 2 → x = q) (h3 : what = 3 → x = w) (h4 : what = 4 → x = NOD d g t q w) : ANS d g n day sl what x := by
  subst hc
  obtain ⟨-, e1, e2, e3⟩ := PV_of (d := d) (g := g) (n := n) (day := day) (sl := sl) ht h60.1 hq hw
  refine ⟨fun z => absurd z h0, fun _ => Or.inl ⟨_, by omega, hv, hp, ?_⟩⟩
  rw [e1, e2, e3]
  exact ⟨h1, h2, h3, h4⟩
theorem ANS_u {d g d' g' : Int → Int} {n day sl what x y : Int} (hn : 0 < n) (hw : 0 ≤ what ∧ what ≤ 4) (h : ∀ i : Int, 0 ≤ i → i < n → d' i = d i ∧ g' i = g i) (h1 : ANS d g n day sl what x) (h2 : ANS d' g' n day sl what y) : x = y := by
  have hP : ∀ k, PV d' g' n day sl k ↔ PV d g n day sl k := fun k => ⟨fun z => ⟨z.1, EVQ_c hn (fun i q0 q1 => ⟨(h i q0 q1).1.symm, (h i q0 q1).2.symm⟩) z.2⟩, fun z => ⟨z.1, EVQ_c hn h z.2⟩⟩
  have hN : ∀ t q w, NOD d' g' t q w = NOD d g t q w := fun t q w => by unfold NOD; rw [(h 0 (by omega) hn).1, (h 0 (by omega) hn).2]
  by_cases w0 : what = 0
  · exact PI_u (h1.1 w0) (PI_P (h2.1 w0) (fun k _ _ => hP k))
  · rcases h1.2 w0 with ⟨j, hj, pj, cj, a1, a2, a3, a4⟩ | ⟨c1, x1⟩
    · rcases h2.2 w0 with ⟨i, hi, pi, ci, b1, b2, b3, b4⟩ | ⟨c2, y2⟩
      · have pi' := (hP i).mp pi
        have ci' := PI_P ci (fun k _ _ => hP k)
        have e : i = j := by
          rcases Int.lt_trichotomy i j with q | q | q
          · exact absurd pi' (PI_lt cj hi.1 q)
          · exact q
          · exact absurd pj (PI_lt ci' hj.1 q)
        subst e
        rw [hN] at b4
        rcases (show what = 1 ∨ what = 2 ∨ what = 3 ∨ what = 4 by omega) with q | q | q | q
        · rw [a1 q, b1 q]
        · rw [a2 q, b2 q]
        · rw [a3 q, b3 q]
        · rw [a4 q, b4 q]
      · exact absurd pj (PI_lt (PI_P c2 (fun k _ _ => hP k)) hj.1 hj.2)
    · rcases h2.2 w0 with ⟨i, hi, pi, ci, -⟩ | ⟨c2, y2⟩
      · exact absurd ((hP i).mp pi) (PI_lt c1 hi.1 hi.2)
      · rw [x1, y2]
def EVc (h : aH) : Prop := ∀ i : Int, 0 ≤ i → i < fO h 52 2 → (0 ≤ gI h 53 i ∧ gI h 53 i ≤ 999999) ∧ 0 ≤ gI h 54 i ∧ gI h 54 i ≤ 359
def EVm (h : aH) : Prop := ∀ i : Int, 0 ≤ i → i < fI h 57 → (0 ≤ gI h 107 i ∧ gI h 107 i ≤ 999999) ∧ 0 ≤ gI h 108 i ∧ gI h 108 i ≤ 359
set_option maxRecDepth 20000 in
set_option maxHeartbeats 4000000 in
theorem sd_X11_turned {d kc ks : Nat} {h0 : aH} {Q : Option aV → aH → Prop} (hO0 : OK h0) (a0 : Int32) (b0 : -1 ≤ a0.toInt ∧ a0.toInt ≤ 1) (a1 : Int32) (b1 : -1000000 ≤ a1.toInt ∧ a1.toInt ≤ 1000000) (a2 : Int32) (b2 : 5 ≤ a2.toInt ∧ a2.toInt ≤ 99) (pre0 : a0.toInt = 1 ∨ a0.toInt = -1) (hQ : ∀ r, (∃ x : Int32, r = some (.inl x) ∧ (x.toInt = trn a0.toInt a1.toInt a2.toInt ∧ -90 ≤ x.toInt ∧ x.toInt ≤ 90)) → Q r h0) : uCall Mt (d + 1) 182 [(.inl a0), (.inl a1), (.inl a2)] h0 kc ks Q := by
  have l_0 : ((0) : Int32).toInt = 0 := by decide
  have l_90 : ((90) : Int32).toInt = 90 := by decide
  refine uc_ink [some (.inl a0), some (.inl a1), some (.inl a2), none] mt_182 (Nat.le_of_ble_eq_true rfl) rfl ?_
  refine ur_ldI rfl rfl ?_
  refine ur_absV rfl (by show ¬ 9 ≤ 1; decide) (fun x1 t2 e3 => ?_)
  have t4 := t2 (by omega)
  refine ur_ldI rfl rfl ?_
  refine ur_binV rfl (fun x5 e6 => ?_)
  have z7 := any_r x1
  have z8 := any_r a2
  have t9 := ti_add e6 (by omega) (by omega)
  refine ur_svIk [some (.inl a0), some (.inl a1), some (.inl a2), some (.inl x5)] rfl rfl ?_
  refine ur_ldI rfl rfl ?_
  refine ur_if1 rfl (fun c10 => ?_) (fun c10 => ?_)
  · have t11 := ne_to c10
    refine ur_ldI rfl rfl ?_
    refine ur_push rfl ?_
    refine ur_binV rfl (fun x12 e13 => ?_)
    have z14 := any_r a0
    have t15 := ti_mul1 e13 (by omega) (by omega)
    refine ur_ldI rfl rfl ?_
    refine ur_binV rfl (fun x16 e17 => ?_)
    have z18 := any_r x12
    have z19 := any_r a1
    refine ur_ldI rfl rfl ?_
    refine ur_divV rfl (nz_of (by omega)) (fun x20 e21 => ?_)
    have z22 := any_r x16
    have z23 := any_r x5
    have t24 := trn_z (q := a2) (by omega) e13 e17 e21 (by omega) (by omega) (by omega)
    exact ur_ret rfl rfl (hQ _ ⟨_, rfl, by omega⟩ )
  · have t25 := ne_no c10
    exfalso
    omega

set_option maxRecDepth 20000 in
set_option maxHeartbeats 4000000 in
theorem sd_X12_turned {d kc ks : Nat} {h0 : aH} {Q : Option aV → aH → Prop} (hO0 : OK h0) (a0 : Int32) (b0 : -1 ≤ a0.toInt ∧ a0.toInt ≤ 1) (a1 : Int32) (b1 : -1000000 ≤ a1.toInt ∧ a1.toInt ≤ 1000000) (a2 : Int32) (b2 : 5 ≤ a2.toInt ∧ a2.toInt ≤ 99) (pre0 : a0.toInt = 1 ∨ a0.toInt = -1) (hQ : ∀ r, (∃ x : Int32, r = some (.inl x) ∧ (x.toInt = trn a0.toInt a1.toInt a2.toInt ∧ -90 ≤ x.toInt ∧ x.toInt ≤ 90)) → Q r h0) : uCall Mt (d + 2) 203 [(.inl a0), (.inl a1), (.inl a2)] h0 kc ks Q := by
  have l_90 : ((90) : Int32).toInt = 90 := by decide
  refine uc_ink [some (.inl a0), some (.inl a1), some (.inl a2)] mt_203 (Nat.le_of_ble_eq_true rfl) rfl ?_
  refine ur_ldI rfl rfl ?_
  refine ur_push rfl ?_
  refine ur_binV rfl (fun x1 e2 => ?_)
  have z3 := any_r a0
  have t4 := ti_mul1 e2 (by omega) (by omega)
  refine ur_ldI rfl rfl ?_
  refine ur_binV rfl (fun x5 e6 => ?_)
  have z7 := any_r x1
  have z8 := any_r a1
  refine ur_ldI rfl rfl ?_
  refine ur_inl rfl rfl (Nat.le_of_ble_eq_true rfl) (Nat.le_of_ble_eq_true rfl) (sf_X12_sizeOf _ (fun w9 hr10 => ?_))
  obtain ⟨x11, rfl, t12⟩ := hr10
  show uRun _ (uCall Mt _) _ 10 (_, [(.inl x11), (.inl x5)], _, _, _)
  have t13 : 0 ≤ x11.toInt ∧ x11.toInt ≤ 1000000 := by omega
  refine ur_ldI rfl rfl ?_
  refine ur_binV rfl (fun x14 e15 => ?_)
  have z16 := any_r x11
  have z17 := any_r a2
  have t18 := ti_add e15 (by omega) (by omega)
  refine ur_divV rfl (nz_of (by omega)) (fun x19 e20 => ?_)
  have z21 := any_r x5
  have z22 := any_r x14
  have t23 := trn_z (q := a2) (by omega) e2 e6 e20 (by omega) (by omega) (by omega)
  exact ur_ret rfl rfl (hQ _ ⟨_, rfl, by omega⟩ )

set_option maxRecDepth 20000 in
set_option maxHeartbeats 4000000 in
theorem sd_X3_nodeOf {d kc ks : Nat} {h0 : aH} {Q : Option aV → aH → Prop} (hO0 : OK h0) (a1 : Int32) (b1 : 0 ≤ a1.toInt ∧ a1.toInt ≤ 999999) (a2 : Int32) (b2 : 5 ≤ a2.toInt ∧ a2.toInt ≤ 99) (a3 : Int32) (b3 : -1 ≤ a3.toInt ∧ a3.toInt ≤ 1) (a4 : Int32) (b4 : 0 ≤ a4.toInt ∧ a4.toInt ≤ 90) (pre0 : EVc h0) (pre1 : 1 ≤ fO h0 52 2) (pre2 : a3.toInt = 1 ∨ a3.toInt = -1) (hQ : ∀ r, (∃ x : Int32, r = some (.inl x) ∧ ((EVQ (gI h0 53) (gI h0 54) (fO h0 52 2) a1.toInt a2.toInt a3.toInt a4.toInt → x.toInt = NOD (gI h0 53) (gI h0 54) a1.toInt a2.toInt a3.toInt) ∧ (¬ EVQ (gI h0 53) (gI h0 54) (fO h0 52 2) a1.toInt a2.toInt a3.toInt a4.toInt → x.toInt = -1))) → Q r h0) : uCall Mt (d + 3) 29 [(.inr (.inr (some 52))), (.inl a1), (.inl a2), (.inl a3), (.inl a4)] h0 kc ks Q := by
  have l_m120 : ((-120) : Int32).toInt = -120 := by decide
  have l_m1 : ((-1) : Int32).toInt = -1 := by decide
  have l_0 : ((0) : Int32).toInt = 0 := by decide
  have l_1 : ((1) : Int32).toInt = 1 := by decide
  have l_120 : ((120) : Int32).toInt = 120 := by decide
  have l_360 : ((360) : Int32).toInt = 360 := by decide
  have l_720 : ((720) : Int32).toInt = 720 := by decide
  refine uc_ink [some (.inr (.inr (some 52))), some (.inl a1), some (.inl a2), some (.inl a3), some (.inl a4), none, none, none, none] mt_29 (Nat.le_of_ble_eq_true rfl) rfl ?_
  obtain ⟨f2, hc1, k3⟩ := ok_52 hO0
  have t4 := fO_of (k := 2) hc1 rfl
  refine ur_ldA rfl rfl ?_
  refine ur_get rfl hc1 rfl ?_
  refine ur_push rfl ?_
  obtain ⟨xs6, hc5, hn7, he8⟩ := hO0.int (hO0.fix 54 (by decide) rfl)
  refine ur_aldV rfl hc5 hn7 (by omega) (fun x9 hx10 => ?_)
  have t11 := gI_of (j := 0) hc5 hx10
  have t12 := pre0 ((0 : Int32)).toInt (by decide) (by omega)
  have t13 : gI h0 54 0 = x9.toInt := (congrArg (gI h0 54) l_0).symm.trans t11
  refine ur_ldI rfl rfl ?_
  refine ur_ldA rfl rfl ?_
  refine ur_get rfl hc1 rfl ?_
  refine ur_push rfl ?_
  obtain ⟨xs15, hc14, hn16, he17⟩ := hO0.int (hO0.fix 53 (by decide) rfl)
  refine ur_aldV rfl hc14 hn16 (by omega) (fun x18 hx19 => ?_)
  have t20 := gI_of (j := 0) hc14 hx19
  have t21 := pre0 ((0 : Int32)).toInt (by decide) (by omega)
  have t22 : gI h0 53 0 = x18.toInt := (congrArg (gI h0 53) l_0).symm.trans t20
  refine ur_ldI rfl rfl ?_
  refine ur_binV rfl (fun x23 e24 => ?_)
  have z25 := any_r x18
  have z26 := any_r a1
  have t27 := ti_sub e24 (by omega) (by omega)
  refine ur_ldI rfl rfl ?_
  refine ur_inl rfl rfl (Nat.le_of_ble_eq_true rfl) (Nat.le_of_ble_eq_true rfl) (sd_X11_turned hO0 _ (by show -1 ≤ a3.toInt ∧ a3.toInt ≤ 1; omega) _ (by show -1000000 ≤ x23.toInt ∧ x23.toInt ≤ 1000000; omega) _ (by show 5 ≤ a2.toInt ∧ a2.toInt ≤ 99; omega) (by omega) (fun w28 hr29 => ?_))
  obtain ⟨x30, rfl, t31⟩ := hr29
  show uRun _ (uCall Mt _) _ 19 (_, [(.inl x30), (.inl x9)], _, _, _)
  refine ur_binV rfl (fun x32 e33 => ?_)
  have z34 := any_r x9
  have z35 := any_r x30
  have t36 := ti_sub e33 (by omega) (by omega)
  refine ur_push rfl ?_
  refine ur_binV rfl (fun x37 e38 => ?_)
  have z39 := any_r x32
  have t40 := ti_add e38 (by omega) (by omega)
  refine ur_push rfl ?_
  refine ur_divV rfl (by decide) (fun x41 e42 => ?_)
  have z43 := any_r x37
  have t44 := ti_rem e42 l_360 (by decide) (by omega)
  refine ur_svIk [some (.inr (.inr (some 52))), some (.inl a1), some (.inl a2), some (.inl a3), some (.inl a4), some (.inl x41), none, none, none] rfl rfl ?_
  have t45 : x41.toInt = NOD (gI h0 53) (gI h0 54) a1.toInt a2.toInt a3.toInt := by unfold NOD; rw [show (gI h0 53) 0 - a1.toInt = x23.toInt by omega]; omega
  refine ur_push rfl ?_
  refine ur_svIk [some (.inr (.inr (some 52))), some (.inl a1), some (.inl a2), some (.inl a3), some (.inl a4), some (.inl x41), some (.inl 0), none, none] rfl rfl ?_
  have L49 : ∀ (m50 : Nat) (x46 : Int32) (u47 : Option aV) (u48 : Option aV) , ((0 ≤ x46.toInt ∧ x46.toInt ≤ 5) ∧ x46.toInt ≤ fO h0 52 2) → (∀ j : Int, 0 ≤ j → j < x46.toInt → EOK (gI h0 53) (gI h0 54) a1.toInt a2.toInt a3.toInt a4.toInt (NOD (gI h0 53) (gI h0 54) a1.toInt a2.toInt a3.toInt) j) → ((6 - x46.toInt).toNat) < m50 → uRun oX3_nodeOf (uCall Mt (d + 2)) Q 33 ([some (.inr (.inr (some 52))), some (.inl a1), some (.inl a2), some (.inl a3), some (.inl a4), some (.inl x41), some (.inl x46), u47, u48], [], h0, kc, ks) := by
    intro m50
    induction m50 with
    | zero => intro x46 u47 u48 iv53 px52 mm54; omega
    | succ m50 ih51 =>
      intro x46 u47 u48 iv53 px52 mm54
      refine ur_ldI rfl rfl ?_
      refine ur_ldA rfl rfl ?_
      refine ur_get rfl hc1 rfl ?_
      have z55 := any_r x46
      have z56 := any_r f2
      refine ur_if2 rfl (fun c57 => ?_) (fun c57 => ?_)
      · have t58 := le_to c57
        refine ur_ldI rfl rfl ?_
        exact ur_ret rfl rfl (hQ _ ⟨_, rfl, ⟨fun _ => t45, fun q => absurd (fun j u0 u1 => px52 j u0 (by omega)) q⟩⟩ )
      · have t59 := le_no c57
        refine ur_ldA rfl rfl ?_
        refine ur_get rfl hc1 rfl ?_
        refine ur_ldI rfl rfl ?_
        refine ur_aldV rfl hc14 hn16 (by omega) (fun x60 hx61 => ?_)
        have t62 := gI_of (j := x46) hc14 hx61
        have t63 := pre0 x46.toInt (by omega) (by omega)
        refine ur_ldI rfl rfl ?_
        refine ur_binV rfl (fun x64 e65 => ?_)
        have z66 := any_r x60
        have t67 := ti_sub e65 (by omega) (by omega)
        refine ur_svIk [some (.inr (.inr (some 52))), some (.inl a1), some (.inl a2), some (.inl a3), some (.inl a4), some (.inl x41), some (.inl x46), some (.inl x64), u48] rfl rfl ?_
        refine ur_ldI rfl rfl ?_
        refine ur_callv rfl rfl (Nat.le_of_ble_eq_true rfl) (Nat.le_of_ble_eq_true rfl) rfl (sp_isFar _ _) ?_
        refine ur_eqB rfl (fun c70 => ?_) (fun c70 => ?_)
        · have t71 := wi_toL (bnot_t c70) l_m120 l_120
          refine ur_ldI rfl rfl ?_
          refine ur_ldI rfl rfl ?_
          refine ur_ldI rfl rfl ?_
          refine ur_ldI rfl rfl ?_
          refine ur_inl rfl rfl (Nat.le_of_ble_eq_true rfl) (Nat.le_of_ble_eq_true rfl) (sd_X11_turned hO0 _ (by show -1 ≤ a3.toInt ∧ a3.toInt ≤ 1; omega) _ (by show -1000000 ≤ x64.toInt ∧ x64.toInt ≤ 1000000; omega) _ (by show 5 ≤ a2.toInt ∧ a2.toInt ≤ 99; omega) (by omega) (fun w72 hr73 => ?_))
          obtain ⟨x74, rfl, t75⟩ := hr73
          show uRun _ (uCall Mt _) _ 72 (_, [(.inl x74), (.inl x41)], _, _, _)
          refine ur_binV rfl (fun x76 e77 => ?_)
          have z78 := any_r x41
          have z79 := any_r x74
          have t80 := ti_add e77 (by omega) (by omega)
          refine ur_push rfl ?_
          refine ur_binV rfl (fun x81 e82 => ?_)
          have z83 := any_r x76
          have t84 := ti_add e82 (by omega) (by omega)
          refine ur_push rfl ?_
          refine ur_divV rfl (by decide) (fun x85 e86 => ?_)
          have z87 := any_r x81
          have t88 := ti_rem e86 l_360 (by decide) (by omega)
          refine ur_svIk [some (.inr (.inr (some 52))), some (.inl a1), some (.inl a2), some (.inl a3), some (.inl a4), some (.inl x41), some (.inl x46), some (.inl x64), some (.inl x85)] rfl rfl ?_
          refine ur_ldI rfl rfl ?_
          refine ur_if1 rfl (fun c89 => ?_) (fun c89 => ?_)
          · have t90 := le_to c89
            refine ur_incV (fun z => [some (.inr (.inr (some 52))), some (.inl a1), some (.inl a2), some (.inl a3), some (.inl a4), some (.inl x41), some (.inl z), some (.inl x64), some (.inl x85)]) rfl rfl (fun _ => rfl) (fun x91 e92 => ?_)
            have t93 := ti_add e92 (by omega) (by omega)
            refine ur_go rfl ?_
            have z94 := any_r x91
            exact ih51 x91 _ _ (by omega) (fun j u0 u1 => by by_cases q : j < x46.toInt; exact px52 j u0 q; rw [show j = x46.toInt by omega]; exact (EOK_0 (by omega) (by omega))) (by omega)
          · have t95 := le_no c89
            refine ur_ldI rfl rfl ?_
            refine ur_ldA rfl rfl ?_
            refine ur_get rfl hc1 rfl ?_
            refine ur_ldI rfl rfl ?_
            refine ur_aldV rfl hc5 hn7 (by omega) (fun x96 hx97 => ?_)
            have t98 := gI_of (j := x46) hc5 hx97
            have t99 := pre0 x46.toInt (by omega) (by omega)
            refine ur_inl rfl rfl (Nat.le_of_ble_eq_true rfl) (Nat.le_of_ble_eq_true rfl) (sd_X11_apart hO0 _ (by show -100000 ≤ x85.toInt ∧ x85.toInt ≤ 100000; omega) _ (by show -100000 ≤ x96.toInt ∧ x96.toInt ≤ 100000; omega) (fun w100 hr101 => ?_))
            obtain ⟨x102, rfl, f103⟩ := hr101
            show uRun _ (uCall Mt _) _ 100 (_, [(.inl x102)], _, _, _)
            refine ur_ldI rfl rfl ?_
            have z104 := any_r x102
            have z105 := any_r a4
            refine ur_if2 rfl (fun c106 => ?_) (fun c106 => ?_)
            · have t107 := le_to c106
              refine ur_incV (fun z => [some (.inr (.inr (some 52))), some (.inl a1), some (.inl a2), some (.inl a3), some (.inl a4), some (.inl x41), some (.inl z), some (.inl x64), some (.inl x85)]) rfl rfl (fun _ => rfl) (fun x108 e109 => ?_)
              have t110 := ti_add e109 (by omega) (by omega)
              refine ur_go rfl ?_
              have z111 := any_r x108
              exact ih51 x108 _ _ (by omega) (fun j u0 u1 => by by_cases q : j < x46.toInt; exact px52 j u0 q; rw [show j = x46.toInt by omega]; exact (EOK_iff (d := gI h0 53) (g := gI h0 54) (t := a1.toInt) (q := a2.toInt) (w := a3.toInt) (sl := a4.toInt) (nd := NOD (gI h0 53) (gI h0 54) a1.toInt a2.toInt a3.toInt) (i := x46.toInt) (e := x64.toInt) (tz := x74.toInt) (m := x85.toInt - x96.toInt) (by omega) (by omega) (by rw [← t45]; omega)).mpr ⟨by omega, fun _ => (by have r := apP_r (by omega) f103; unfold apL; omega)⟩) (by omega)
            · have t112 := le_no c106
              refine ur_push rfl ?_
              exact ur_ret rfl rfl (hQ _ ⟨_, rfl, ⟨fun q => absurd (((EOK_iff (d := gI h0 53) (g := gI h0 54) (t := a1.toInt) (q := a2.toInt) (w := a3.toInt) (sl := a4.toInt) (nd := NOD (gI h0 53) (gI h0 54) a1.toInt a2.toInt a3.toInt) (i := x46.toInt) (e := x64.toInt) (tz := x74.toInt) (m := x85.toInt - x96.toInt) (by omega) (by omega) (by rw [← t45]; omega)).mp (q x46.toInt (by omega) (by omega))).2 (by omega)) (by have r := apP_r (by omega) f103; unfold apL; omega), fun _ => by omega⟩⟩ )
        · have t113 := wi_noL (bnot_f c70) l_m120 l_120
          refine ur_push rfl ?_
          exact ur_ret rfl rfl (hQ _ ⟨_, rfl, ⟨fun q => absurd (q x46.toInt (by omega) (by omega)).1 (by omega), fun _ => by omega⟩⟩ )
  exact L49 _ 0 (none) (none) (by omega) (fun j u0 u1 => by exfalso; omega) (Nat.lt_succ_self _)

set_option maxRecDepth 20000 in
set_option maxHeartbeats 4000000 in
theorem sd_X12_nodeFor {d kc ks : Nat} {h0 : aH} {Q : Option aV → aH → Prop} (hO0 : OK h0) (a1 : Int32) (b1 : 0 ≤ a1.toInt ∧ a1.toInt ≤ 999999) (a2 : Int32) (b2 : 5 ≤ a2.toInt ∧ a2.toInt ≤ 99) (a3 : Int32) (b3 : -1 ≤ a3.toInt ∧ a3.toInt ≤ 1) (a4 : Int32) (b4 : 0 ≤ a4.toInt ∧ a4.toInt ≤ 90) (pre0 : EVm h0) (pre1 : 1 ≤ fI h0 57) (pre2 : a3.toInt = 1 ∨ a3.toInt = -1) (hQ : ∀ r, (∃ x : Int32, r = some (.inl x) ∧ ((EVQ (gI h0 107) (gI h0 108) (fI h0 57) a1.toInt a2.toInt a3.toInt a4.toInt → x.toInt = NOD (gI h0 107) (gI h0 108) a1.toInt a2.toInt a3.toInt) ∧ (¬ EVQ (gI h0 107) (gI h0 108) (fI h0 57) a1.toInt a2.toInt a3.toInt a4.toInt → x.toInt = -1))) → Q r h0) : uCall Mt (d + 3) 269 [(.inr (.inr (some 69))), (.inl a1), (.inl a2), (.inl a3), (.inl a4)] h0 kc ks Q := by
  have l_m1 : ((-1) : Int32).toInt = -1 := by decide
  have l_0 : ((0) : Int32).toInt = 0 := by decide
  have l_1 : ((1) : Int32).toInt = 1 := by decide
  have l_120 : ((120) : Int32).toInt = 120 := by decide
  have l_360 : ((360) : Int32).toInt = 360 := by decide
  have l_720 : ((720) : Int32).toInt = 720 := by decide
  refine uc_ink [some (.inr (.inr (some 69))), some (.inl a1), some (.inl a2), some (.inl a3), some (.inl a4), none, none, none, none] mt_269 (Nat.le_of_ble_eq_true rfl) rfl ?_
  obtain ⟨fs1, hc2⟩ := hO0.mod
  obtain ⟨f3, p4, t5⟩ := mf_57 hO0 hc2
  have t6 := fI_of hc2 p4
  refine ur_ldA rfl rfl ?_
  refine ur_get rfl hc2 (mf_58 hO0 hc2) ?_
  refine ur_push rfl ?_
  obtain ⟨xs8, hc7, hn9, he10⟩ := hO0.int (hO0.fix 107 (by decide) rfl)
  refine ur_aldV rfl hc7 hn9 (by omega) (fun x11 hx12 => ?_)
  have t13 := gI_of (j := 0) hc7 hx12
  have t14 := pre0 ((0 : Int32)).toInt (by decide) (by omega)
  have t15 : gI h0 107 0 = x11.toInt := (congrArg (gI h0 107) l_0).symm.trans t13
  refine ur_ldI rfl rfl ?_
  refine ur_binV rfl (fun x16 e17 => ?_)
  have z18 := any_r x11
  have z19 := any_r a1
  have t20 := ti_sub e17 (by omega) (by omega)
  refine ur_svIk [some (.inr (.inr (some 69))), some (.inl a1), some (.inl a2), some (.inl a3), some (.inl a4), some (.inl x16), none, none, none] rfl rfl ?_
  refine ur_ldI rfl rfl ?_
  refine ur_inl rfl rfl (Nat.le_of_ble_eq_true rfl) (Nat.le_of_ble_eq_true rfl) (sf_X12_sizeOf _ (fun w21 hr22 => ?_))
  obtain ⟨x23, rfl, t24⟩ := hr22
  show uRun _ (uCall Mt _) _ 15 (_, [(.inl x23)], _, _, _)
  refine ur_push rfl ?_
  refine ur_if2 rfl (fun c25 => ?_) (fun c25 => ?_)
  · have t26 := le_to c25
    refine ur_ldA rfl rfl ?_
    refine ur_get rfl hc2 (mf_59 hO0 hc2) ?_
    refine ur_push rfl ?_
    obtain ⟨xs28, hc27, hn29, he30⟩ := hO0.int (hO0.fix 108 (by decide) rfl)
    refine ur_aldV rfl hc27 hn29 (by omega) (fun x31 hx32 => ?_)
    have t33 := gI_of (j := 0) hc27 hx32
    have t34 := pre0 ((0 : Int32)).toInt (by decide) (by omega)
    have t35 : gI h0 108 0 = x31.toInt := (congrArg (gI h0 108) l_0).symm.trans t33
    refine ur_ldI rfl rfl ?_
    refine ur_ldI rfl rfl ?_
    refine ur_ldI rfl rfl ?_
    refine ur_inl rfl rfl (Nat.le_of_ble_eq_true rfl) (Nat.le_of_ble_eq_true rfl) (sd_X12_turned hO0 _ (by show -1 ≤ a3.toInt ∧ a3.toInt ≤ 1; omega) _ (by show -1000000 ≤ x16.toInt ∧ x16.toInt ≤ 1000000; omega) _ (by show 5 ≤ a2.toInt ∧ a2.toInt ≤ 99; omega) (by omega) (fun w36 hr37 => ?_))
    obtain ⟨x38, rfl, t39⟩ := hr37
    show uRun _ (uCall Mt _) _ 35 (_, [(.inl x38), (.inl x31)], _, _, _)
    refine ur_binV rfl (fun x40 e41 => ?_)
    have z42 := any_r x31
    have z43 := any_r x38
    have t44 := ti_sub e41 (by omega) (by omega)
    refine ur_push rfl ?_
    refine ur_binV rfl (fun x45 e46 => ?_)
    have z47 := any_r x40
    have t48 := ti_add e46 (by omega) (by omega)
    refine ur_push rfl ?_
    refine ur_divV rfl (by decide) (fun x49 e50 => ?_)
    have z51 := any_r x45
    have t52 := ti_rem e50 l_360 (by decide) (by omega)
    refine ur_svIk [some (.inr (.inr (some 69))), some (.inl a1), some (.inl a2), some (.inl a3), some (.inl a4), some (.inl x16), some (.inl x49), none, none] rfl rfl ?_
    have t53 : x49.toInt = NOD (gI h0 107) (gI h0 108) a1.toInt a2.toInt a3.toInt := by unfold NOD; rw [show (gI h0 107) 0 - a1.toInt = x16.toInt by omega]; omega
    refine ur_push rfl ?_
    refine ur_svIk [some (.inr (.inr (some 69))), some (.inl a1), some (.inl a2), some (.inl a3), some (.inl a4), some (.inl x16), some (.inl x49), some (.inl 1), none] rfl rfl ?_
    have L56 : ∀ (m57 : Nat) (x54 : Int32) (u55 : Option aV) , ((1 ≤ x54.toInt ∧ x54.toInt ≤ 5) ∧ x54.toInt ≤ fI h0 57) → (∀ j : Int, 0 ≤ j → j < x54.toInt → EOK (gI h0 107) (gI h0 108) a1.toInt a2.toInt a3.toInt a4.toInt (NOD (gI h0 107) (gI h0 108) a1.toInt a2.toInt a3.toInt) j) → ((6 - x54.toInt).toNat) < m57 → uRun oX12_nodeFor (uCall Mt (d + 2)) Q 49 ([some (.inr (.inr (some 69))), some (.inl a1), some (.inl a2), some (.inl a3), some (.inl a4), some (.inl x16), some (.inl x49), some (.inl x54), u55], [], h0, kc, ks) := by
      intro m57
      induction m57 with
      | zero => intro x54 u55 iv60 px59 mm61; omega
      | succ m57 ih58 =>
        intro x54 u55 iv60 px59 mm61
        refine ur_ldI rfl rfl ?_
        refine ur_ldA rfl rfl ?_
        refine ur_get rfl hc2 p4 ?_
        have z62 := any_r x54
        have z63 := any_r f3
        refine ur_if2 rfl (fun c64 => ?_) (fun c64 => ?_)
        · have t65 := le_to c64
          refine ur_ldI rfl rfl ?_
          exact ur_ret rfl rfl (hQ _ ⟨_, rfl, ⟨fun _ => t53, fun q => absurd (fun j u0 u1 => px59 j u0 (by omega)) q⟩⟩ )
        · have t66 := le_no c64
          refine ur_ldA rfl rfl ?_
          refine ur_get rfl hc2 (mf_58 hO0 hc2) ?_
          refine ur_ldI rfl rfl ?_
          refine ur_aldV rfl hc7 hn9 (by omega) (fun x67 hx68 => ?_)
          have t69 := gI_of (j := x54) hc7 hx68
          have t70 := pre0 x54.toInt (by omega) (by omega)
          refine ur_ldI rfl rfl ?_
          refine ur_binV rfl (fun x71 e72 => ?_)
          have z73 := any_r x67
          have t74 := ti_sub e72 (by omega) (by omega)
          refine ur_svIk [some (.inr (.inr (some 69))), some (.inl a1), some (.inl a2), some (.inl a3), some (.inl a4), some (.inl x16), some (.inl x49), some (.inl x54), some (.inl x71)] rfl rfl ?_
          refine ur_ldI rfl rfl ?_
          refine ur_inl rfl rfl (Nat.le_of_ble_eq_true rfl) (Nat.le_of_ble_eq_true rfl) (sf_X12_sizeOf _ (fun w75 hr76 => ?_))
          obtain ⟨x77, rfl, t78⟩ := hr76
          show uRun _ (uCall Mt _) _ 74 (_, [(.inl x77)], _, _, _)
          refine ur_push rfl ?_
          refine ur_if2 rfl (fun c79 => ?_) (fun c79 => ?_)
          · have t80 := lt_to c79
            refine ur_push rfl ?_
            exact ur_ret rfl rfl (hQ _ ⟨_, rfl, ⟨fun q => absurd (q x54.toInt (by omega) (by omega)).1 (by omega), fun _ => by omega⟩⟩ )
          · have t81 := lt_no c79
            refine ur_ldI rfl rfl ?_
            refine ur_ldI rfl rfl ?_
            refine ur_ldI rfl rfl ?_
            refine ur_ldI rfl rfl ?_
            refine ur_inl rfl rfl (Nat.le_of_ble_eq_true rfl) (Nat.le_of_ble_eq_true rfl) (sd_X12_turned hO0 _ (by show -1 ≤ a3.toInt ∧ a3.toInt ≤ 1; omega) _ (by show -1000000 ≤ x71.toInt ∧ x71.toInt ≤ 1000000; omega) _ (by show 5 ≤ a2.toInt ∧ a2.toInt ≤ 99; omega) (by omega) (fun w82 hr83 => ?_))
            obtain ⟨x84, rfl, t85⟩ := hr83
            show uRun _ (uCall Mt _) _ 88 (_, [(.inl x84), (.inl x49)], _, _, _)
            refine ur_binV rfl (fun x86 e87 => ?_)
            have z88 := any_r x49
            have z89 := any_r x84
            have t90 := ti_add e87 (by omega) (by omega)
            refine ur_push rfl ?_
            refine ur_binV rfl (fun x91 e92 => ?_)
            have z93 := any_r x86
            have t94 := ti_add e92 (by omega) (by omega)
            refine ur_push rfl ?_
            refine ur_divV rfl (by decide) (fun x95 e96 => ?_)
            have z97 := any_r x91
            have t98 := ti_rem e96 l_360 (by decide) (by omega)
            refine ur_ldA rfl rfl ?_
            refine ur_get rfl hc2 (mf_59 hO0 hc2) ?_
            refine ur_ldI rfl rfl ?_
            refine ur_aldV rfl hc27 hn29 (by omega) (fun x99 hx100 => ?_)
            have t101 := gI_of (j := x54) hc27 hx100
            have t102 := pre0 x54.toInt (by omega) (by omega)
            refine ur_inl rfl rfl (Nat.le_of_ble_eq_true rfl) (Nat.le_of_ble_eq_true rfl) (sd_X12_apartOf hO0 _ (by show -100000 ≤ x95.toInt ∧ x95.toInt ≤ 100000; omega) _ (by show -100000 ≤ x99.toInt ∧ x99.toInt ≤ 100000; omega) (fun w103 hr104 => ?_))
            obtain ⟨x105, rfl, f106⟩ := hr104
            show uRun _ (uCall Mt _) _ 107 (_, [(.inl x105)], _, _, _)
            refine ur_ldI rfl rfl ?_
            have z107 := any_r x105
            have z108 := any_r a4
            refine ur_if2 rfl (fun c109 => ?_) (fun c109 => ?_)
            · have t110 := le_to c109
              refine ur_incV (fun z => [some (.inr (.inr (some 69))), some (.inl a1), some (.inl a2), some (.inl a3), some (.inl a4), some (.inl x16), some (.inl x49), some (.inl z), some (.inl x71)]) rfl rfl (fun _ => rfl) (fun x111 e112 => ?_)
              have t113 := ti_add e112 (by omega) (by omega)
              refine ur_go rfl ?_
              have z114 := any_r x111
              exact ih58 x111 _ (by omega) (fun j u0 u1 => by by_cases q : j < x54.toInt; exact px59 j u0 q; rw [show j = x54.toInt by omega]; exact (EOK_iff (d := gI h0 107) (g := gI h0 108) (t := a1.toInt) (q := a2.toInt) (w := a3.toInt) (sl := a4.toInt) (nd := NOD (gI h0 107) (gI h0 108) a1.toInt a2.toInt a3.toInt) (i := x54.toInt) (e := x71.toInt) (tz := x84.toInt) (m := x95.toInt - x99.toInt) (by omega) (by omega) (by rw [← t53]; omega)).mpr ⟨by omega, fun _ => (by have r := apP_r (by omega) f106; unfold apL; omega)⟩) (by omega)
            · have t115 := le_no c109
              refine ur_push rfl ?_
              exact ur_ret rfl rfl (hQ _ ⟨_, rfl, ⟨fun q => absurd (((EOK_iff (d := gI h0 107) (g := gI h0 108) (t := a1.toInt) (q := a2.toInt) (w := a3.toInt) (sl := a4.toInt) (nd := NOD (gI h0 107) (gI h0 108) a1.toInt a2.toInt a3.toInt) (i := x54.toInt) (e := x71.toInt) (tz := x84.toInt) (m := x95.toInt - x99.toInt) (by omega) (by omega) (by rw [← t53]; omega)).mp (q x54.toInt (by omega) (by omega))).2 (by omega)) (by have r := apP_r (by omega) f106; unfold apL; omega), fun _ => by omega⟩⟩ )
    exact L56 _ 1 (none) (by omega) (fun j u0 u1 => by rw [show j = ((0 : Int32)).toInt by omega]; exact (EOK_0 (by omega) (by omega))) (Nat.lt_succ_self _)
  · have t116 := le_no c25
    refine ur_push rfl ?_
    exact ur_ret rfl rfl (hQ _ ⟨_, rfl, ⟨fun q => absurd (q (0 : Int32).toInt (by omega) (by omega)).1 (by omega), fun _ => by omega⟩⟩ )

set_option maxRecDepth 20000 in
set_option maxHeartbeats 4000000 in
theorem sd_X3_findPaths {d kc ks : Nat} {h0 : aH} {Q : Option aV → aH → Prop} (hO0 : OK h0) (a1 : Int32) (b1 : 0 ≤ a1.toInt ∧ a1.toInt ≤ 999999) (a2 : Int32) (b2 : 0 ≤ a2.toInt ∧ a2.toInt ≤ 90) (a3 : Int32) (b3 : 0 ≤ a3.toInt ∧ a3.toInt ≤ 4) (pre0 : EVc h0) (pre1 : 1 ≤ fO h0 52 2) (hQ : ∀ r, (∃ x : Int32, r = some (.inl x) ∧ (ANS (gI h0 53) (gI h0 54) (fO h0 52 2) a1.toInt a2.toInt a3.toInt x.toInt)) → Q r h0) : uCall Mt (d + 4) 28 [(.inr (.inr (some 52))), (.inl a1), (.inl a2), (.inl a3)] h0 kc ks Q := by
  have l_m2 : ((-2) : Int32).toInt = -2 := by decide
  have l_m1 : ((-1) : Int32).toInt = -1 := by decide
  have l_0 : ((0) : Int32).toInt = 0 := by decide
  have l_1 : ((1) : Int32).toInt = 1 := by decide
  have l_2 : ((2) : Int32).toInt = 2 := by decide
  have l_3 : ((3) : Int32).toInt = 3 := by decide
  have l_4 : ((4) : Int32).toInt = 4 := by decide
  have l_5 : ((5) : Int32).toInt = 5 := by decide
  have l_10 : ((10) : Int32).toInt = 10 := by decide
  have l_60 : ((60) : Int32).toInt = 60 := by decide
  have l_95 : ((95) : Int32).toInt = 95 := by decide
  have l_999999 : ((999999) : Int32).toInt = 999999 := by decide
  refine uc_ink [some (.inr (.inr (some 52))), some (.inl a1), some (.inl a2), some (.inl a3), none, none, none, none, none, none] mt_28 (Nat.le_of_ble_eq_true rfl) rfl ?_
  obtain ⟨f2, hc1, k3⟩ := ok_52 hO0
  have t4 := fO_of (k := 2) hc1 rfl
  refine ur_push rfl ?_
  refine ur_svIk [some (.inr (.inr (some 52))), some (.inl a1), some (.inl a2), some (.inl a3), some (.inl 0), none, none, none, none, none] rfl rfl ?_
  refine ur_ldI rfl rfl ?_
  refine ur_push rfl ?_
  refine ur_binV rfl (fun x5 e6 => ?_)
  have z7 := any_r a1
  have t8 := ti_add e6 (by omega) (by omega)
  refine ur_push rfl ?_
  refine ur_minV rfl (by show ¬ 9 ≤ 2; decide) (fun x9 t10 e11 => ?_)
  refine ur_svIk [some (.inr (.inr (some 52))), some (.inl a1), some (.inl a2), some (.inl a3), some (.inl 0), some (.inl x9), none, none, none, none] rfl rfl ?_
  refine ur_ldI rfl rfl ?_
  refine ur_push rfl ?_
  refine ur_binV rfl (fun x12 e13 => ?_)
  have t14 := ti_sub e13 (by omega) (by omega)
  refine ur_push rfl ?_
  refine ur_maxV rfl (by show ¬ 9 ≤ 2; decide) (fun x15 t16 e17 => ?_)
  refine ur_svIk [some (.inr (.inr (some 52))), some (.inl a1), some (.inl a2), some (.inl a3), some (.inl 0), some (.inl x9), some (.inl x15), none, none, none] rfl rfl ?_
  have L23 : ∀ (m24 : Nat) (x18 : Int32) (x19 : Int32) (u20 : Option aV) (u21 : Option aV) (u22 : Option aV) , ((0 ≤ x19.toInt ∧ x19.toInt ≤ 1000000) ∧ (0 ≤ x18.toInt ∧ x18.toInt ≤ 2420) ∧ (a3.toInt ≠ 0 → x18.toInt = 0) ∧ x18.toInt ≤ 20 * (x19.toInt - a1.toInt + 60) ∧ a1.toInt - 60 ≤ x19.toInt ∧ x19.toInt ≤ x9.toInt + 1) → (PI (PV (gI h0 53) (gI h0 54) (fO h0 52 2) a1.toInt a2.toInt) (20 * (x19.toInt - a1.toInt + 60)) x18.toInt) → ((1000061 - x19.toInt).toNat) < m24 → uRun oX3_findPaths (uCall Mt (d + 3)) Q 24 ([some (.inr (.inr (some 52))), some (.inl a1), some (.inl a2), some (.inl a3), some (.inl x18), some (.inl x9), some (.inl x19), u20, u21, u22], [], h0, kc, ks) := by
    intro m24
    induction m24 with
    | zero => intro x18 x19 u20 u21 u22 iv27 px26 mm28; omega
    | succ m24 ih25 =>
      intro x18 x19 u20 u21 u22 iv27 px26 mm28
      refine ur_ldI rfl rfl ?_
      refine ur_ldI rfl rfl ?_
      have z29 := any_r x19
      have z30 := any_r x9
      refine ur_if2 rfl (fun c31 => ?_) (fun c31 => ?_)
      · have t32 := lt_to c31
        refine ur_ldI rfl rfl ?_
        refine ur_if1 rfl (fun c33 => ?_) (fun c33 => ?_)
        · have t34 := ne_to c33
          refine ur_push rfl ?_
          exact ur_ret rfl rfl (hQ _ ⟨_, rfl, ANS_n (PI_sk px26 (j' := 2420) (by omega) (fun k h1 h2 hP => by have hP := hP.1; unfold tJ at hP; omega) rfl) (by omega) (by omega) (by omega)⟩ )
        · have t35 := ne_no c33
          refine ur_ldI rfl rfl ?_
          refine ur_go rfl ?_
          exact ur_ret rfl rfl (hQ _ ⟨_, rfl, ANS_0 (PI_sk px26 (j' := 2420) (by omega) (fun k h1 h2 hP => by have hP := hP.1; unfold tJ at hP; omega) rfl) (by omega) (by omega)⟩ )
      · have t36 := lt_no c31
        refine ur_push rfl ?_
        refine ur_svIk [some (.inr (.inr (some 52))), some (.inl a1), some (.inl a2), some (.inl a3), some (.inl x18), some (.inl x9), some (.inl x19), some (.inl 5), u21, u22] rfl rfl ?_
        have L41 : ∀ (m42 : Nat) (x37 : Int32) (x38 : Int32) (u39 : Option aV) (u40 : Option aV) , ((5 ≤ x38.toInt ∧ x38.toInt ≤ 105) ∧ (0 ≤ x37.toInt ∧ x37.toInt ≤ 2420) ∧ (a3.toInt ≠ 0 → x37.toInt = 0) ∧ x38.toInt % 10 = 5 ∧ x37.toInt ≤ 20 * (x19.toInt - a1.toInt + 60) + 2 * ((x38.toInt - 5) / 10)) → (PI (PV (gI h0 53) (gI h0 54) (fO h0 52 2) a1.toInt a2.toInt) (20 * (x19.toInt - a1.toInt + 60) + 2 * ((x38.toInt - 5) / 10)) x37.toInt) → ((106 - x38.toInt).toNat) < m42 → uRun oX3_findPaths (uCall Mt (d + 3)) Q 34 ([some (.inr (.inr (some 52))), some (.inl a1), some (.inl a2), some (.inl a3), some (.inl x37), some (.inl x9), some (.inl x19), some (.inl x38), u39, u40], [], h0, kc, ks) := by
          intro m42
          induction m42 with
          | zero => intro x37 x38 u39 u40 iv45 px44 mm46; omega
          | succ m42 ih43 =>
            intro x37 x38 u39 u40 iv45 px44 mm46
            refine ur_ldI rfl rfl ?_
            refine ur_push rfl ?_
            refine ur_if2 rfl (fun c47 => ?_) (fun c47 => ?_)
            · have t48 := lt_to c47
              refine ur_incV (fun z => [some (.inr (.inr (some 52))), some (.inl a1), some (.inl a2), some (.inl a3), some (.inl x37), some (.inl x9), some (.inl z), some (.inl x38), u39, u40]) rfl rfl (fun _ => rfl) (fun x49 e50 => ?_)
              have t51 := ti_add e50 (by omega) (by omega)
              refine ur_go rfl ?_
              have z52 := any_r x37
              have z53 := any_r x49
              exact ih25 x37 x49 _ _ _ (by omega) (PI_c px44 (by omega) (by omega)) (by omega)
            · have t54 := lt_no c47
              refine ur_push rfl ?_
              refine ur_svIk [some (.inr (.inr (some 52))), some (.inl a1), some (.inl a2), some (.inl a3), some (.inl x37), some (.inl x9), some (.inl x19), some (.inl x38), some (.inl 1), u40] rfl rfl ?_
              have L58 : ∀ (m59 : Nat) (x55 : Int32) (x56 : Int32) (u57 : Option aV) , ((-3 ≤ x56.toInt ∧ x56.toInt ≤ 1) ∧ (0 ≤ x55.toInt ∧ x55.toInt ≤ 2420) ∧ (a3.toInt ≠ 0 → x55.toInt = 0) ∧ x56.toInt % 2 = 1 ∧ x55.toInt ≤ 20 * (x19.toInt - a1.toInt + 60) + 2 * ((x38.toInt - 5) / 10) + (1 - x56.toInt) / 2) → (PI (PV (gI h0 53) (gI h0 54) (fO h0 52 2) a1.toInt a2.toInt) (20 * (x19.toInt - a1.toInt + 60) + 2 * ((x38.toInt - 5) / 10) + (1 - x56.toInt) / 2) x55.toInt) → ((x56.toInt + 4).toNat) < m59 → uRun oX3_findPaths (uCall Mt (d + 3)) Q 44 ([some (.inr (.inr (some 52))), some (.inl a1), some (.inl a2), some (.inl a3), some (.inl x55), some (.inl x9), some (.inl x19), some (.inl x38), some (.inl x56), u57], [], h0, kc, ks) := by
                intro m59
                induction m59 with
                | zero => intro x55 x56 u57 iv62 px61 mm63; omega
                | succ m59 ih60 =>
                  intro x55 x56 u57 iv62 px61 mm63
                  refine ur_ldI rfl rfl ?_
                  refine ur_push rfl ?_
                  refine ur_if2 rfl (fun c64 => ?_) (fun c64 => ?_)
                  · have t65 := lt_to c64
                    refine ur_incV (fun z => [some (.inr (.inr (some 52))), some (.inl a1), some (.inl a2), some (.inl a3), some (.inl x55), some (.inl x9), some (.inl x19), some (.inl z), some (.inl x56), u57]) rfl rfl (fun _ => rfl) (fun x66 e67 => ?_)
                    have z68 := any_r x38
                    have t69 := ti_add e67 (by omega) (by omega)
                    refine ur_go rfl ?_
                    have z70 := any_r x55
                    have z71 := any_r x66
                    exact ih43 x55 x66 _ _ (by omega) (PI_c px61 (by omega) (by omega)) (by omega)
                  · have t72 := lt_no c64
                    refine ur_ldA rfl rfl ?_
                    refine ur_ldI rfl rfl ?_
                    refine ur_ldI rfl rfl ?_
                    refine ur_ldI rfl rfl ?_
                    refine ur_ldI rfl rfl ?_
                    refine ur_inl rfl (rcv_of hc1) (Nat.le_of_ble_eq_true rfl) (Nat.le_of_ble_eq_true rfl) (sd_X3_nodeOf hO0 _ (by show 0 ≤ x19.toInt ∧ x19.toInt ≤ 999999; omega) _ (by show 5 ≤ x38.toInt ∧ x38.toInt ≤ 99; omega) _ (by show -1 ≤ x56.toInt ∧ x56.toInt ≤ 1; omega) _ (by show 0 ≤ a2.toInt ∧ a2.toInt ≤ 90; omega) pre0 (by omega) (by omega) (fun w73 hr74 => ?_))
                    obtain ⟨x75, rfl, f76⟩ := hr74
                    show uRun _ (uCall Mt _) _ 61 (_, [(.inl x75)], _, _, _)
                    refine ur_svIk [some (.inr (.inr (some 52))), some (.inl a1), some (.inl a2), some (.inl a3), some (.inl x55), some (.inl x9), some (.inl x19), some (.inl x38), some (.inl x56), some (.inl x75)] rfl rfl ?_
                    refine ur_ldI rfl rfl ?_
                    refine ur_push rfl ?_
                    refine ur_if2 rfl (fun c77 => ?_) (fun c77 => ?_)
                    · have t78 := ne_to c77
                      have t79 : (PV (gI h0 53) (gI h0 54) (fO h0 52 2) a1.toInt a2.toInt) (20 * (x19.toInt - a1.toInt + 60) + 2 * ((x38.toInt - 5) / 10) + (1 - x56.toInt) / 2) := (PV_of (d := gI h0 53) (g := gI h0 54) (n := fO h0 52 2) (day := a1.toInt) (sl := a2.toInt) (t := x19.toInt) (q := x38.toInt) (w := x56.toInt) (by omega) (by omega) (by omega) (by omega)).1.mpr (Classical.byContradiction fun q => absurd (f76.2 q) (by omega))
                      refine ur_ldI rfl rfl ?_
                      refine ur_push rfl ?_
                      refine ur_if2 rfl (fun c80 => ?_) (fun c80 => ?_)
                      · have t81 := ne_to c80
                        refine ur_ldI rfl rfl ?_
                        refine ur_push rfl ?_
                        refine ur_if2 rfl (fun c82 => ?_) (fun c82 => ?_)
                        · have t83 := ne_to c82
                          refine ur_ldI rfl rfl ?_
                          refine ur_push rfl ?_
                          refine ur_if2 rfl (fun c84 => ?_) (fun c84 => ?_)
                          · have t85 := ne_to c84
                            refine ur_ldI rfl rfl ?_
                            refine ur_push rfl ?_
                            refine ur_if2 rfl (fun c86 => ?_) (fun c86 => ?_)
                            · have t87 := ne_to c86
                              refine ur_incV (fun z => [some (.inr (.inr (some 52))), some (.inl a1), some (.inl a2), some (.inl a3), some (.inl z), some (.inl x9), some (.inl x19), some (.inl x38), some (.inl x56), some (.inl x75)]) rfl rfl (fun _ => rfl) (fun x88 e89 => ?_)
                              have z90 := any_r x55
                              have t91 := ti_add e89 (by omega) (by omega)
                              refine ur_incV (fun z => [some (.inr (.inr (some 52))), some (.inl a1), some (.inl a2), some (.inl a3), some (.inl x88), some (.inl x9), some (.inl x19), some (.inl x38), some (.inl z), some (.inl x75)]) rfl rfl (fun _ => rfl) (fun x92 e93 => ?_)
                              have z94 := any_r x56
                              have t95 := ti_add e93 (by omega) (by omega)
                              refine ur_go rfl ?_
                              have z96 := any_r x88
                              have z97 := any_r x92
                              exact ih60 x88 x92 _ (by omega) (PI_t px61 t79 (by omega) (by omega)) (by omega)
                            · have t98 := ne_no c86
                              refine ur_ldI rfl rfl ?_
                              exact ur_ret rfl rfl (hQ _ ⟨_, rfl, ANS_f (t := x19.toInt) (q := x38.toInt) (w := x56.toInt) t79 px61 (by omega) (by omega) (by omega) (by omega) (by omega) (by omega) (fun q => by omega) (fun q => by omega) (fun q => by omega) (fun _ => f76.1 ((PV_of (d := gI h0 53) (g := gI h0 54) (n := fO h0 52 2) (day := a1.toInt) (sl := a2.toInt) (t := x19.toInt) (q := x38.toInt) (w := x56.toInt) (by omega) (by omega) (by omega) (by omega)).1.mp t79))⟩ )
                          · have t99 := ne_no c84
                            refine ur_ldI rfl rfl ?_
                            exact ur_ret rfl rfl (hQ _ ⟨_, rfl, ANS_f (t := x19.toInt) (q := x38.toInt) (w := x56.toInt) t79 px61 (by omega) (by omega) (by omega) (by omega) (by omega) (by omega) (fun q => by omega) (fun q => by omega) (fun q => by omega) (fun q => by exfalso; omega)⟩ )
                        · have t100 := ne_no c82
                          refine ur_ldI rfl rfl ?_
                          exact ur_ret rfl rfl (hQ _ ⟨_, rfl, ANS_f (t := x19.toInt) (q := x38.toInt) (w := x56.toInt) t79 px61 (by omega) (by omega) (by omega) (by omega) (by omega) (by omega) (fun q => by omega) (fun q => by omega) (fun q => by omega) (fun q => by exfalso; omega)⟩ )
                      · have t101 := ne_no c80
                        refine ur_ldI rfl rfl ?_
                        exact ur_ret rfl rfl (hQ _ ⟨_, rfl, ANS_f (t := x19.toInt) (q := x38.toInt) (w := x56.toInt) t79 px61 (by omega) (by omega) (by omega) (by omega) (by omega) (by omega) (fun q => by omega) (fun q => by omega) (fun q => by omega) (fun q => by exfalso; omega)⟩ )
                    · have t102 := ne_no c77
                      have t103 : ¬ (PV (gI h0 53) (gI h0 54) (fO h0 52 2) a1.toInt a2.toInt) (20 * (x19.toInt - a1.toInt + 60) + 2 * ((x38.toInt - 5) / 10) + (1 - x56.toInt) / 2) := fun hP => by have a := f76.1 ((PV_of (d := gI h0 53) (g := gI h0 54) (n := fO h0 52 2) (day := a1.toInt) (sl := a2.toInt) (t := x19.toInt) (q := x38.toInt) (w := x56.toInt) (by omega) (by omega) (by omega) (by omega)).1.mp hP); have b := NOD_r (gI h0 53) (gI h0 54) x19.toInt x38.toInt x56.toInt; omega
                      refine ur_go rfl ?_
                      refine ur_incV (fun z => [some (.inr (.inr (some 52))), some (.inl a1), some (.inl a2), some (.inl a3), some (.inl x55), some (.inl x9), some (.inl x19), some (.inl x38), some (.inl z), some (.inl x75)]) rfl rfl (fun _ => rfl) (fun x104 e105 => ?_)
                      have z106 := any_r x56
                      have t107 := ti_add e105 (by omega) (by omega)
                      refine ur_go rfl ?_
                      have z108 := any_r x55
                      have z109 := any_r x104
                      exact ih60 x55 x104 _ (by omega) (PI_f px61 t103 (by omega) (by omega)) (by omega)
              have z110 := any_r x37
              exact L58 _ x37 1 (u40) (by omega) (PI_c px44 (by omega) (by omega)) (Nat.lt_succ_self _)
        have z111 := any_r x18
        exact L41 _ x18 5 (u21) (u22) (by omega) (PI_c px26 (by omega) (by omega)) (Nat.lt_succ_self _)
  have z112 := any_r x15
  exact L23 _ 0 x15 (none) (none) (none) (by omega) (PI_sk PI_0 (by omega) (fun k h1 h2 hP => by have hP := hP.1; unfold tJ at hP; omega) (by omega)) (Nat.lt_succ_self _)

set_option maxRecDepth 20000 in
set_option maxHeartbeats 4000000 in
theorem sd_X11_paths {d kc ks : Nat} {h0 : aH} {Q : Option aV → aH → Prop} (hO0 : OK h0) (a1 : Int32) (a2 : Int32) (a3 : Int32) (pre0 : EVc h0) (hQ : ∀ r, (∃ x : Int32, r = some (.inl x) ∧ ((¬ ((0 ≤ a1.toInt ∧ a1.toInt ≤ 999999) ∧ (0 ≤ a2.toInt ∧ a2.toInt ≤ 90) ∧ 0 ≤ a3.toInt ∧ a3.toInt ≤ 4) → x.toInt = -1) ∧ (((0 ≤ a1.toInt ∧ a1.toInt ≤ 999999) ∧ (0 ≤ a2.toInt ∧ a2.toInt ≤ 90) ∧ 0 ≤ a3.toInt ∧ a3.toInt ≤ 4) ∧ fO h0 52 2 < 2 → x.toInt = -5) ∧ (((0 ≤ a1.toInt ∧ a1.toInt ≤ 999999) ∧ (0 ≤ a2.toInt ∧ a2.toInt ≤ 90) ∧ 0 ≤ a3.toInt ∧ a3.toInt ≤ 4) ∧ 2 ≤ fO h0 52 2 → ANS (gI h0 53) (gI h0 54) (fO h0 52 2) a1.toInt a2.toInt a3.toInt x.toInt))) → Q r h0) : uCall Mt (d + 5) 148 [(.inr (.inr (some 0))), (.inl a1), (.inl a2), (.inl a3)] h0 kc ks Q := by
  have l_m5 : ((-5) : Int32).toInt = -5 := by decide
  have l_m1 : ((-1) : Int32).toInt = -1 := by decide
  have l_0 : ((0) : Int32).toInt = 0 := by decide
  have l_2 : ((2) : Int32).toInt = 2 := by decide
  have l_4 : ((4) : Int32).toInt = 4 := by decide
  have l_90 : ((90) : Int32).toInt = 90 := by decide
  have l_999999 : ((999999) : Int32).toInt = 999999 := by decide
  refine uc_ink [some (.inr (.inr (some 0))), some (.inl a1), some (.inl a2), some (.inl a3)] mt_148 (Nat.le_of_ble_eq_true rfl) rfl ?_
  obtain ⟨f2, hc1, k3⟩ := ok_52 hO0
  have t4 := fO_of (k := 2) hc1 rfl
  refine ur_ldI rfl rfl ?_
  refine ur_callv rfl rfl (Nat.le_of_ble_eq_true rfl) (Nat.le_of_ble_eq_true rfl) rfl (sp_isDay _ _) ?_
  refine ur_eqB rfl (fun c7 => ?_) (fun c7 => ?_)
  · have t8 := wi_noL c7 l_0 l_999999
    refine ur_push rfl ?_
    exact ur_ret rfl rfl (hQ _ ⟨_, rfl, ⟨fun q => by omega, fun q => by omega, fun q => by exfalso; omega⟩⟩ )
  · have t9 := wi_toL c7 l_0 l_999999
    refine ur_ldI rfl rfl ?_
    refine ur_push rfl ?_
    refine ur_push rfl ?_
    refine ur_callv rfl rfl (Nat.le_of_ble_eq_true rfl) (Nat.le_of_ble_eq_true rfl) rfl (sp_within _ _ _ _ _) ?_
    refine ur_eqB rfl (fun c12 => ?_) (fun c12 => ?_)
    · have t13 := wi_noL c12 l_0 l_90
      refine ur_push rfl ?_
      exact ur_ret rfl rfl (hQ _ ⟨_, rfl, ⟨fun q => by omega, fun q => by omega, fun q => by exfalso; omega⟩⟩ )
    · have t14 := wi_toL c12 l_0 l_90
      refine ur_ldI rfl rfl ?_
      refine ur_push rfl ?_
      refine ur_push rfl ?_
      refine ur_callv rfl rfl (Nat.le_of_ble_eq_true rfl) (Nat.le_of_ble_eq_true rfl) rfl (sp_within _ _ _ _ _) ?_
      refine ur_neB rfl (fun c17 => ?_) (fun c17 => ?_)
      · have t18 := wi_toL c17 l_0 l_4
        refine ur_ldA rfl rfl ?_
        obtain ⟨hc19, k20⟩ := ok_0 hO0
        refine ur_get rfl hc19 rfl ?_
        refine ur_get rfl hc1 rfl ?_
        refine ur_push rfl ?_
        refine ur_if2 rfl (fun c21 => ?_) (fun c21 => ?_)
        · have t22 := le_to c21
          refine ur_ldA rfl rfl ?_
          refine ur_get rfl hc19 rfl ?_
          refine ur_ldI rfl rfl ?_
          refine ur_ldI rfl rfl ?_
          refine ur_ldI rfl rfl ?_
          refine ur_inl rfl (rcv_of hc1) (Nat.le_of_ble_eq_true rfl) (Nat.le_of_ble_eq_true rfl) (sd_X3_findPaths hO0 _ (by show 0 ≤ a1.toInt ∧ a1.toInt ≤ 999999; omega) _ (by show 0 ≤ a2.toInt ∧ a2.toInt ≤ 90; omega) _ (by show 0 ≤ a3.toInt ∧ a3.toInt ≤ 4; omega) pre0 (by omega) (fun w23 hr24 => ?_))
          obtain ⟨x25, rfl, f26⟩ := hr24
          show uRun _ (uCall Mt _) _ 52 (_, [(.inl x25)], _, _, _)
          exact ur_ret rfl rfl (hQ _ ⟨_, rfl, ⟨fun q => absurd (by omega) q, fun q => by exfalso; omega, fun _ => f26⟩⟩ )
        · have t27 := le_no c21
          refine ur_push rfl ?_
          exact ur_ret rfl rfl (hQ _ ⟨_, rfl, ⟨fun q => by omega, fun q => by omega, fun q => by exfalso; omega⟩⟩ )
      · have t28 := wi_noL c17 l_0 l_4
        refine ur_push rfl ?_
        exact ur_ret rfl rfl (hQ _ ⟨_, rfl, ⟨fun q => by omega, fun q => by omega, fun q => by exfalso; omega⟩⟩ )

set_option maxRecDepth 20000 in
set_option maxHeartbeats 4000000 in
theorem sd_X12_paths {d kc ks : Nat} {h0 : aH} {Q : Option aV → aH → Prop} (hO0 : OK h0) (a1 : Int32) (a2 : Int32) (a3 : Int32) (pre0 : EVm h0) (hQ : ∀ r, (∃ x : Int32, r = some (.inl x) ∧ ((¬ ((0 ≤ a1.toInt ∧ a1.toInt ≤ 999999) ∧ (0 ≤ a2.toInt ∧ a2.toInt ≤ 90) ∧ 0 ≤ a3.toInt ∧ a3.toInt ≤ 4) → x.toInt = -1) ∧ (((0 ≤ a1.toInt ∧ a1.toInt ≤ 999999) ∧ (0 ≤ a2.toInt ∧ a2.toInt ≤ 90) ∧ 0 ≤ a3.toInt ∧ a3.toInt ≤ 4) ∧ fI h0 57 < 2 → x.toInt = -5) ∧ (((0 ≤ a1.toInt ∧ a1.toInt ≤ 999999) ∧ (0 ≤ a2.toInt ∧ a2.toInt ≤ 90) ∧ 0 ≤ a3.toInt ∧ a3.toInt ≤ 4) ∧ 2 ≤ fI h0 57 → ANS (gI h0 107) (gI h0 108) (fI h0 57) a1.toInt a2.toInt a3.toInt x.toInt))) → Q r h0) : uCall Mt (d + 4) 270 [(.inr (.inr (some 69))), (.inl a1), (.inl a2), (.inl a3)] h0 kc ks Q := by
  have l_m5 : ((-5) : Int32).toInt = -5 := by decide
  have l_m2 : ((-2) : Int32).toInt = -2 := by decide
  have l_m1 : ((-1) : Int32).toInt = -1 := by decide
  have l_0 : ((0) : Int32).toInt = 0 := by decide
  have l_1 : ((1) : Int32).toInt = 1 := by decide
  have l_2 : ((2) : Int32).toInt = 2 := by decide
  have l_3 : ((3) : Int32).toInt = 3 := by decide
  have l_4 : ((4) : Int32).toInt = 4 := by decide
  have l_5 : ((5) : Int32).toInt = 5 := by decide
  have l_10 : ((10) : Int32).toInt = 10 := by decide
  have l_60 : ((60) : Int32).toInt = 60 := by decide
  have l_90 : ((90) : Int32).toInt = 90 := by decide
  have l_100 : ((100) : Int32).toInt = 100 := by decide
  have l_999999 : ((999999) : Int32).toInt = 999999 := by decide
  refine uc_ink [some (.inr (.inr (some 69))), some (.inl a1), some (.inl a2), some (.inl a3), none, none, none, none, none] mt_270 (Nat.le_of_ble_eq_true rfl) rfl ?_
  obtain ⟨fs1, hc2⟩ := hO0.mod
  obtain ⟨f3, p4, t5⟩ := mf_57 hO0 hc2
  have t6 := fI_of hc2 p4
  refine ur_ldI rfl rfl ?_
  refine ur_callv rfl rfl (Nat.le_of_ble_eq_true rfl) (Nat.le_of_ble_eq_true rfl) rfl (sq_isDay _ _) ?_
  refine ur_eqB rfl (fun c9 => ?_) (fun c9 => ?_)
  · have t10 := wi_noL c9 l_0 l_999999
    refine ur_push rfl ?_
    exact ur_ret rfl rfl (hQ _ ⟨_, rfl, ⟨fun q => by omega, fun q => by omega, fun q => by exfalso; omega⟩⟩ )
  · have t11 := wi_toL c9 l_0 l_999999
    refine ur_ldI rfl rfl ?_
    refine ur_push rfl ?_
    refine ur_push rfl ?_
    refine ur_callv rfl rfl (Nat.le_of_ble_eq_true rfl) (Nat.le_of_ble_eq_true rfl) rfl (sp_in _ _ _ _ _) ?_
    refine ur_eqB rfl (fun c14 => ?_) (fun c14 => ?_)
    · have t15 := wi_noL c14 l_0 l_90
      refine ur_push rfl ?_
      exact ur_ret rfl rfl (hQ _ ⟨_, rfl, ⟨fun q => by omega, fun q => by omega, fun q => by exfalso; omega⟩⟩ )
    · have t16 := wi_toL c14 l_0 l_90
      refine ur_ldI rfl rfl ?_
      refine ur_push rfl ?_
      refine ur_push rfl ?_
      refine ur_callv rfl rfl (Nat.le_of_ble_eq_true rfl) (Nat.le_of_ble_eq_true rfl) rfl (sp_in _ _ _ _ _) ?_
      refine ur_neB rfl (fun c19 => ?_) (fun c19 => ?_)
      · have t20 := wi_toL c19 l_0 l_4
        refine ur_ldA rfl rfl ?_
        refine ur_get rfl hc2 p4 ?_
        refine ur_push rfl ?_
        refine ur_if2 rfl (fun c21 => ?_) (fun c21 => ?_)
        · have t22 := le_to c21
          refine ur_push rfl ?_
          refine ur_svIk [some (.inr (.inr (some 69))), some (.inl a1), some (.inl a2), some (.inl a3), some (.inl 0), none, none, none, none] rfl rfl ?_
          refine ur_ldI rfl rfl ?_
          refine ur_push rfl ?_
          refine ur_binV rfl (fun x23 e24 => ?_)
          have z25 := any_r a1
          have t26 := ti_sub e24 (by omega) (by omega)
          refine ur_svIk [some (.inr (.inr (some 69))), some (.inl a1), some (.inl a2), some (.inl a3), some (.inl 0), some (.inl x23), none, none, none] rfl rfl ?_
          have L32 : ∀ (m33 : Nat) (x27 : Int32) (x28 : Int32) (u29 : Option aV) (u30 : Option aV) (u31 : Option aV) , ((-60 ≤ x28.toInt ∧ x28.toInt ≤ 1000060) ∧ (0 ≤ x27.toInt ∧ x27.toInt ≤ 2420) ∧ (a3.toInt ≠ 0 → x27.toInt = 0) ∧ x27.toInt ≤ 20 * (x28.toInt - a1.toInt + 60) ∧ a1.toInt - 60 ≤ x28.toInt ∧ x28.toInt ≤ a1.toInt + 61) → (PI (PV (gI h0 107) (gI h0 108) (fI h0 57) a1.toInt a2.toInt) (20 * (x28.toInt - a1.toInt + 60)) x27.toInt) → ((1000061 - x28.toInt).toNat) < m33 → uRun oX12_paths (uCall Mt (d + 3)) Q 48 ([some (.inr (.inr (some 69))), some (.inl a1), some (.inl a2), some (.inl a3), some (.inl x27), some (.inl x28), u29, u30, u31], [], h0, kc, ks) := by
            intro m33
            induction m33 with
            | zero => intro x27 x28 u29 u30 u31 iv36 px35 mm37; omega
            | succ m33 ih34 =>
              intro x27 x28 u29 u30 u31 iv36 px35 mm37
              refine ur_ldI rfl rfl ?_
              refine ur_ldI rfl rfl ?_
              refine ur_push rfl ?_
              refine ur_binV rfl (fun x38 e39 => ?_)
              have t40 := ti_add e39 (by omega) (by omega)
              have z41 := any_r x28
              have z42 := any_r x38
              refine ur_if2 rfl (fun c43 => ?_) (fun c43 => ?_)
              · have t44 := lt_to c43
                refine ur_ldI rfl rfl ?_
                refine ur_if1 rfl (fun c45 => ?_) (fun c45 => ?_)
                · have t46 := ne_to c45
                  refine ur_push rfl ?_
                  exact ur_ret rfl rfl (hQ _ ⟨_, rfl, ⟨fun q => absurd (by omega) q, fun q => by exfalso; omega, fun _ => ANS_n (PI_sk px35 (j' := 2420) (by omega) (fun k h1 h2 hP => by have hP := hP.1; unfold tJ at hP; omega) rfl) (by omega) (by omega) (by omega)⟩⟩ )
                · have t47 := ne_no c45
                  refine ur_ldI rfl rfl ?_
                  refine ur_go rfl ?_
                  exact ur_ret rfl rfl (hQ _ ⟨_, rfl, ⟨fun q => absurd (by omega) q, fun q => by exfalso; omega, fun _ => ANS_0 (PI_sk px35 (j' := 2420) (by omega) (fun k h1 h2 hP => by have hP := hP.1; unfold tJ at hP; omega) rfl) (by omega) (by omega)⟩⟩ )
              · have t48 := lt_no c43
                refine ur_ldI rfl rfl ?_
                refine ur_callv rfl rfl (Nat.le_of_ble_eq_true rfl) (Nat.le_of_ble_eq_true rfl) rfl (sq_isDay _ _) ?_
                refine ur_neB rfl (fun c51 => ?_) (fun c51 => ?_)
                · have t52 := wi_toL c51 l_0 l_999999
                  refine ur_push rfl ?_
                  refine ur_svIk [some (.inr (.inr (some 69))), some (.inl a1), some (.inl a2), some (.inl a3), some (.inl x27), some (.inl x28), some (.inl 5), u30, u31] rfl rfl ?_
                  have L57 : ∀ (m58 : Nat) (x53 : Int32) (x54 : Int32) (u55 : Option aV) (u56 : Option aV) , ((5 ≤ x54.toInt ∧ x54.toInt ≤ 105) ∧ (0 ≤ x53.toInt ∧ x53.toInt ≤ 2420) ∧ (a3.toInt ≠ 0 → x53.toInt = 0) ∧ x54.toInt % 10 = 5 ∧ x53.toInt ≤ 20 * (x28.toInt - a1.toInt + 60) + 2 * ((x54.toInt - 5) / 10)) → (PI (PV (gI h0 107) (gI h0 108) (fI h0 57) a1.toInt a2.toInt) (20 * (x28.toInt - a1.toInt + 60) + 2 * ((x54.toInt - 5) / 10)) x53.toInt) → ((106 - x54.toInt).toNat) < m58 → uRun oX12_paths (uCall Mt (d + 3)) Q 71 ([some (.inr (.inr (some 69))), some (.inl a1), some (.inl a2), some (.inl a3), some (.inl x53), some (.inl x28), some (.inl x54), u55, u56], [], h0, kc, ks) := by
                    intro m58
                    induction m58 with
                    | zero => intro x53 x54 u55 u56 iv61 px60 mm62; omega
                    | succ m58 ih59 =>
                      intro x53 x54 u55 u56 iv61 px60 mm62
                      refine ur_ldI rfl rfl ?_
                      refine ur_push rfl ?_
                      refine ur_if2 rfl (fun c63 => ?_) (fun c63 => ?_)
                      · have t64 := le_to c63
                        refine ur_incV (fun z => [some (.inr (.inr (some 69))), some (.inl a1), some (.inl a2), some (.inl a3), some (.inl x53), some (.inl z), some (.inl x54), u55, u56]) rfl rfl (fun _ => rfl) (fun x65 e66 => ?_)
                        have t67 := ti_add e66 (by omega) (by omega)
                        refine ur_go rfl ?_
                        have z68 := any_r x53
                        have z69 := any_r x65
                        exact ih34 x53 x65 _ _ _ (by omega) (PI_c px60 (by omega) (by omega)) (by omega)
                      · have t70 := le_no c63
                        refine ur_push rfl ?_
                        refine ur_svIk [some (.inr (.inr (some 69))), some (.inl a1), some (.inl a2), some (.inl a3), some (.inl x53), some (.inl x28), some (.inl x54), some (.inl 1), u56] rfl rfl ?_
                        have L74 : ∀ (m75 : Nat) (x71 : Int32) (x72 : Int32) (u73 : Option aV) , ((-3 ≤ x72.toInt ∧ x72.toInt ≤ 1) ∧ (0 ≤ x71.toInt ∧ x71.toInt ≤ 2420) ∧ (a3.toInt ≠ 0 → x71.toInt = 0) ∧ x72.toInt % 2 = 1 ∧ x71.toInt ≤ 20 * (x28.toInt - a1.toInt + 60) + 2 * ((x54.toInt - 5) / 10) + (1 - x72.toInt) / 2) → (PI (PV (gI h0 107) (gI h0 108) (fI h0 57) a1.toInt a2.toInt) (20 * (x28.toInt - a1.toInt + 60) + 2 * ((x54.toInt - 5) / 10) + (1 - x72.toInt) / 2) x71.toInt) → ((x72.toInt + 4).toNat) < m75 → uRun oX12_paths (uCall Mt (d + 3)) Q 81 ([some (.inr (.inr (some 69))), some (.inl a1), some (.inl a2), some (.inl a3), some (.inl x71), some (.inl x28), some (.inl x54), some (.inl x72), u73], [], h0, kc, ks) := by
                          intro m75
                          induction m75 with
                          | zero => intro x71 x72 u73 iv78 px77 mm79; omega
                          | succ m75 ih76 =>
                            intro x71 x72 u73 iv78 px77 mm79
                            refine ur_ldI rfl rfl ?_
                            refine ur_push rfl ?_
                            refine ur_if2 rfl (fun c80 => ?_) (fun c80 => ?_)
                            · have t81 := lt_to c80
                              refine ur_incV (fun z => [some (.inr (.inr (some 69))), some (.inl a1), some (.inl a2), some (.inl a3), some (.inl x71), some (.inl x28), some (.inl z), some (.inl x72), u73]) rfl rfl (fun _ => rfl) (fun x82 e83 => ?_)
                              have z84 := any_r x54
                              have t85 := ti_add e83 (by omega) (by omega)
                              refine ur_go rfl ?_
                              have z86 := any_r x71
                              have z87 := any_r x82
                              exact ih59 x71 x82 _ _ (by omega) (PI_c px77 (by omega) (by omega)) (by omega)
                            · have t88 := lt_no c80
                              refine ur_ldA rfl rfl ?_
                              refine ur_ldI rfl rfl ?_
                              refine ur_ldI rfl rfl ?_
                              refine ur_ldI rfl rfl ?_
                              refine ur_ldI rfl rfl ?_
                              refine ur_inl rfl (rcv_of hc2) (Nat.le_of_ble_eq_true rfl) (Nat.le_of_ble_eq_true rfl) (sd_X12_nodeFor hO0 _ (by show 0 ≤ x28.toInt ∧ x28.toInt ≤ 999999; omega) _ (by show 5 ≤ x54.toInt ∧ x54.toInt ≤ 99; omega) _ (by show -1 ≤ x72.toInt ∧ x72.toInt ≤ 1; omega) _ (by show 0 ≤ a2.toInt ∧ a2.toInt ≤ 90; omega) pre0 (by omega) (by omega) (fun w89 hr90 => ?_))
                              obtain ⟨x91, rfl, f92⟩ := hr90
                              show uRun _ (uCall Mt _) _ 98 (_, [(.inl x91)], _, _, _)
                              refine ur_svIk [some (.inr (.inr (some 69))), some (.inl a1), some (.inl a2), some (.inl a3), some (.inl x71), some (.inl x28), some (.inl x54), some (.inl x72), some (.inl x91)] rfl rfl ?_
                              refine ur_ldI rfl rfl ?_
                              refine ur_if1 rfl (fun c93 => ?_) (fun c93 => ?_)
                              · have t94 := le_to c93
                                have t95 : (PV (gI h0 107) (gI h0 108) (fI h0 57) a1.toInt a2.toInt) (20 * (x28.toInt - a1.toInt + 60) + 2 * ((x54.toInt - 5) / 10) + (1 - x72.toInt) / 2) := (PV_of (d := gI h0 107) (g := gI h0 108) (n := fI h0 57) (day := a1.toInt) (sl := a2.toInt) (t := x28.toInt) (q := x54.toInt) (w := x72.toInt) (by omega) (by omega) (by omega) (by omega)).1.mpr (Classical.byContradiction fun q => absurd (f92.2 q) (by omega))
                                refine ur_ldI rfl rfl ?_
                                refine ur_if1 rfl (fun c96 => ?_) (fun c96 => ?_)
                                · have t97 := le_to c96
                                  refine ur_incV (fun z => [some (.inr (.inr (some 69))), some (.inl a1), some (.inl a2), some (.inl a3), some (.inl z), some (.inl x28), some (.inl x54), some (.inl x72), some (.inl x91)]) rfl rfl (fun _ => rfl) (fun x98 e99 => ?_)
                                  have z100 := any_r x71
                                  have t101 := ti_add e99 (by omega) (by omega)
                                  refine ur_incV (fun z => [some (.inr (.inr (some 69))), some (.inl a1), some (.inl a2), some (.inl a3), some (.inl x98), some (.inl x28), some (.inl x54), some (.inl z), some (.inl x91)]) rfl rfl (fun _ => rfl) (fun x102 e103 => ?_)
                                  have z104 := any_r x72
                                  have t105 := ti_add e103 (by omega) (by omega)
                                  refine ur_go rfl ?_
                                  have z106 := any_r x98
                                  have z107 := any_r x102
                                  exact ih76 x98 x102 _ (by omega) (PI_t px77 t95 (by omega) (by omega)) (by omega)
                                · have t108 := le_no c96
                                  refine ur_ldI rfl rfl ?_
                                  refine ur_push rfl ?_
                                  refine ur_if2 rfl (fun c109 => ?_) (fun c109 => ?_)
                                  · have t110 := ne_to c109
                                    refine ur_ldI rfl rfl ?_
                                    refine ur_push rfl ?_
                                    refine ur_if2 rfl (fun c111 => ?_) (fun c111 => ?_)
                                    · have t112 := ne_to c111
                                      refine ur_ldI rfl rfl ?_
                                      refine ur_push rfl ?_
                                      refine ur_if2 rfl (fun c113 => ?_) (fun c113 => ?_)
                                      · have t114 := ne_to c113
                                        refine ur_ldI rfl rfl ?_
                                        exact ur_ret rfl rfl (hQ _ ⟨_, rfl, ⟨fun q => absurd (by omega) q, fun q => by exfalso; omega, fun _ => ANS_f (t := x28.toInt) (q := x54.toInt) (w := x72.toInt) t95 px77 (by omega) (by omega) (by omega) (by omega) (by omega) (by omega) (fun q => by omega) (fun q => by omega) (fun q => by omega) (fun _ => f92.1 ((PV_of (d := gI h0 107) (g := gI h0 108) (n := fI h0 57) (day := a1.toInt) (sl := a2.toInt) (t := x28.toInt) (q := x54.toInt) (w := x72.toInt) (by omega) (by omega) (by omega) (by omega)).1.mp t95))⟩⟩ )
                                      · have t115 := ne_no c113
                                        refine ur_ldI rfl rfl ?_
                                        refine ur_go rfl ?_
                                        exact ur_ret rfl rfl (hQ _ ⟨_, rfl, ⟨fun q => absurd (by omega) q, fun q => by exfalso; omega, fun _ => ANS_f (t := x28.toInt) (q := x54.toInt) (w := x72.toInt) t95 px77 (by omega) (by omega) (by omega) (by omega) (by omega) (by omega) (fun q => by omega) (fun q => by omega) (fun q => by omega) (fun q => by exfalso; omega)⟩⟩ )
                                    · have t116 := ne_no c111
                                      refine ur_ldI rfl rfl ?_
                                      refine ur_go rfl ?_
                                      exact ur_ret rfl rfl (hQ _ ⟨_, rfl, ⟨fun q => absurd (by omega) q, fun q => by exfalso; omega, fun _ => ANS_f (t := x28.toInt) (q := x54.toInt) (w := x72.toInt) t95 px77 (by omega) (by omega) (by omega) (by omega) (by omega) (by omega) (fun q => by omega) (fun q => by omega) (fun q => by omega) (fun q => by exfalso; omega)⟩⟩ )
                                  · have t117 := ne_no c109
                                    refine ur_ldI rfl rfl ?_
                                    refine ur_go rfl ?_
                                    exact ur_ret rfl rfl (hQ _ ⟨_, rfl, ⟨fun q => absurd (by omega) q, fun q => by exfalso; omega, fun _ => ANS_f (t := x28.toInt) (q := x54.toInt) (w := x72.toInt) t95 px77 (by omega) (by omega) (by omega) (by omega) (by omega) (by omega) (fun q => by omega) (fun q => by omega) (fun q => by omega) (fun q => by exfalso; omega)⟩⟩ )
                              · have t118 := le_no c93
                                have t119 : ¬ (PV (gI h0 107) (gI h0 108) (fI h0 57) a1.toInt a2.toInt) (20 * (x28.toInt - a1.toInt + 60) + 2 * ((x54.toInt - 5) / 10) + (1 - x72.toInt) / 2) := fun hP => by have a := f92.1 ((PV_of (d := gI h0 107) (g := gI h0 108) (n := fI h0 57) (day := a1.toInt) (sl := a2.toInt) (t := x28.toInt) (q := x54.toInt) (w := x72.toInt) (by omega) (by omega) (by omega) (by omega)).1.mp hP); have b := NOD_r (gI h0 107) (gI h0 108) x28.toInt x54.toInt x72.toInt; omega
                                refine ur_go rfl ?_
                                refine ur_incV (fun z => [some (.inr (.inr (some 69))), some (.inl a1), some (.inl a2), some (.inl a3), some (.inl x71), some (.inl x28), some (.inl x54), some (.inl z), some (.inl x91)]) rfl rfl (fun _ => rfl) (fun x120 e121 => ?_)
                                have z122 := any_r x72
                                have t123 := ti_add e121 (by omega) (by omega)
                                refine ur_go rfl ?_
                                have z124 := any_r x71
                                have z125 := any_r x120
                                exact ih76 x71 x120 _ (by omega) (PI_f px77 t119 (by omega) (by omega)) (by omega)
                        have z126 := any_r x53
                        exact L74 _ x53 1 (u56) (by omega) (PI_c px60 (by omega) (by omega)) (Nat.lt_succ_self _)
                  have z127 := any_r x27
                  exact L57 _ x27 5 (u30) (u31) (by omega) (PI_c px35 (by omega) (by omega)) (Nat.lt_succ_self _)
                · have t128 := wi_noL c51 l_0 l_999999
                  refine ur_go rfl ?_
                  refine ur_incV (fun z => [some (.inr (.inr (some 69))), some (.inl a1), some (.inl a2), some (.inl a3), some (.inl x27), some (.inl z), u29, u30, u31]) rfl rfl (fun _ => rfl) (fun x129 e130 => ?_)
                  have t131 := ti_add e130 (by omega) (by omega)
                  refine ur_go rfl ?_
                  have z132 := any_r x27
                  have z133 := any_r x129
                  exact ih34 x27 x129 _ _ _ (by omega) (PI_sk px35 (by omega) (fun k h1 h2 hP => by have hP := hP.1; unfold tJ at hP; omega) (by omega)) (by omega)
          have z134 := any_r x23
          exact L32 _ 0 x23 (none) (none) (none) (by omega) (PI_sk PI_0 (by omega) (fun k h1 h2 hP => by have hP := hP.1; unfold tJ at hP; omega) (by omega)) (Nat.lt_succ_self _)
        · have t135 := le_no c21
          refine ur_push rfl ?_
          exact ur_ret rfl rfl (hQ _ ⟨_, rfl, ⟨fun q => by omega, fun q => by omega, fun q => by exfalso; omega⟩⟩ )
      · have t136 := wi_noL c19 l_0 l_4
        refine ur_push rfl ?_
        exact ur_ret rfl rfl (hQ _ ⟨_, rfl, ⟨fun q => by omega, fun q => by omega, fun q => by exfalso; omega⟩⟩ )

set_option maxRecDepth 20000 in
set_option maxHeartbeats 4000000 in
theorem se_X3_addEvening {d kc ks : Nat} {h0 : aH} {Q : Option aV → aH → Prop} (hO0 : OK h0) (a1 : Int32) (a2 : Int32) (hQ : ∀ r h', (∃ x : Int32, r = some (.inl x) ∧ (5 ≤ fO h0 52 2 ∧ x.toInt = -3 ∧ fO h' 52 2 = fO h0 52 2 ∨ fO h0 52 2 < 5 ∧ x.toInt = fO h0 52 2 + 1 ∧ fO h' 52 2 = fO h0 52 2 + 1)) → OK h' → un [53, 54, 6202] h0 h' → (((0 ≤ fO h0 52 2) ∧ fO h0 52 2 < 5 → arI h' 53 = (arI h0 53).set (fO h0 52 2).toNat a1 ∧ arI h' 54 = (arI h0 54).set (fO h0 52 2).toNat a2) ∧ (¬ ((0 ≤ fO h0 52 2) ∧ fO h0 52 2 < 5) → arI h' 53 = arI h0 53 ∧ arI h' 54 = arI h0 54)) → Q r h') : uCall Mt (d + 1) 27 [(.inr (.inr (some 52))), (.inl a1), (.inl a2)] h0 kc ks Q := by
  have l_m3 : ((-3) : Int32).toInt = -3 := by decide
  have l_1 : ((1) : Int32).toInt = 1 := by decide
  have l_5 : ((5) : Int32).toInt = 5 := by decide
  refine uc_ink [some (.inr (.inr (some 52))), some (.inl a1), some (.inl a2)] mt_27 (Nat.le_of_ble_eq_true rfl) rfl ?_
  obtain ⟨f2, hc1, k3⟩ := ok_52 hO0
  have t4 := fO_of (k := 2) hc1 rfl
  refine ur_ldA rfl rfl ?_
  refine ur_get rfl hc1 rfl ?_
  refine ur_push rfl ?_
  refine ur_if2 rfl (fun c5 => ?_) (fun c5 => ?_)
  · have t6 := lt_to c5
    refine ur_ldA rfl rfl ?_
    refine ur_get rfl hc1 rfl ?_
    refine ur_ldA rfl rfl ?_
    refine ur_get rfl hc1 rfl ?_
    refine ur_ldI rfl rfl ?_
    obtain ⟨xs8, hc7, hn9, he10⟩ := hO0.int (hO0.fix 53 (by decide) rfl)
    refine ur_astV (W := [53, 54, 6202]) (m := 5) rfl hO0 hc7 (by decide) hn9 (by omega) (any_r _) (Or.inr (Or.inr (wid_fix (by decide) (by decide)))) (fun h13 hO13 hu13 d11 hc12 => ?_)
    have w14 : wI h0 h13 53 ((arI h0 53).set (f2 : Int32).toInt.toNat a1) := ⟨by rw [arI_of hc12, arI_of hc7], d11⟩
    refine ur_ldA rfl rfl ?_
    refine ur_get rfl ((d11 _ (by decide)).trans hc1) rfl ?_
    have t15 := fO_of (k := 2) ((d11 _ (by decide)).trans hc1) rfl
    refine ur_ldA rfl rfl ?_
    refine ur_get rfl ((d11 _ (by decide)).trans hc1) rfl ?_
    refine ur_ldI rfl rfl ?_
    obtain ⟨xs17, hc16, hn18, he19⟩ := hO13.int (hO13.fix 54 (by decide) rfl)
    refine ur_astV (W := [53, 54, 6202]) (m := 5) rfl hO13 hc16 (by decide) hn18 (by omega) (any_r _) (Or.inr (Or.inr (wid_fix (by decide) (by decide)))) (fun h22 hO22 hu22 d20 hc21 => ?_)
    have w23 : wI h13 h22 54 ((arI h13 54).set (f2 : Int32).toInt.toNat a2) := ⟨by rw [arI_of hc21, arI_of hc16], d20⟩
    refine ur_ldA rfl rfl ?_
    refine ur_dup rfl rfl ?_
    refine ur_get rfl ((d20 _ (by decide)).trans ((d11 _ (by decide)).trans hc1)) rfl ?_
    have t24 := fO_of (k := 2) ((d20 _ (by decide)).trans ((d11 _ (by decide)).trans hc1)) rfl
    refine ur_push rfl ?_
    refine ur_binV rfl (fun x25 e26 => ?_)
    have z27 := any_r f2
    have t28 := ti_add e26 (by omega) (by omega)
    refine ur_putV (W := [53, 54, 6202]) (fs' := [(.inr (.inr (some 53))), (.inr (.inr (some 54))), (.inl x25)]) rfl hO22 ((d20 _ (by decide)).trans ((d11 _ (by decide)).trans hc1)) (Nat.le_of_ble_eq_true rfl) rfl rfl ⟨rfl, _, rfl, by omega⟩ rfl (Or.inr (by show 1000 + 100 * wid 52 (103, 3) + 2 ∈ _; rw [(wid_f (by decide))]; decide)) (fun h30 hO30 hu30 d29 hc31 => ?_)
    refine ur_ldA rfl rfl ?_
    refine ur_get rfl hc31 rfl ?_
    have t32 := fO_of (k := 2) hc31 rfl
    exact ur_ret rfl rfl (hQ _ _ ⟨_, rfl, by omega⟩ hO30 (hu13.tr (hu22.tr hu30)) ⟨fun _ => ⟨by rw [show (fO h0 52 2).toNat = f2.toInt.toNat by omega]; exact (((arI_c (d29 53 (by decide))).trans rfl).trans ((w23.oI (by decide)).trans w14.1)), by rw [show (fO h0 52 2).toNat = f2.toInt.toNat by omega, show arI h0 54 = arI h13 54 from (w14.oI (by decide)).symm]; exact (((arI_c (d29 54 (by decide))).trans rfl).trans w23.1)⟩, fun q => absurd (by omega) q⟩)
  · have t33 := lt_no c5
    refine ur_push rfl ?_
    exact ur_ret rfl rfl (hQ _ _ ⟨_, rfl, by omega⟩ hO0 un.rf ⟨fun q => by exfalso; omega, fun _ => ⟨rfl, rfl⟩⟩)

set_option maxRecDepth 20000 in
set_option maxHeartbeats 4000000 in
theorem se_X11_observed {d kc ks : Nat} {h0 : aH} {Q : Option aV → aH → Prop} (hO0 : OK h0) (a1 : Int32) (a2 : Int32) (hQ : ∀ r h', (∃ x : Int32, r = some (.inl x) ∧ (¬ ((0 ≤ a1.toInt ∧ a1.toInt ≤ 999999) ∧ (0 ≤ a2.toInt ∧ a2.toInt ≤ 359)) ∧ x.toInt = -1 ∧ fO h' 52 2 = fO h0 52 2 ∨ ((0 ≤ a1.toInt ∧ a1.toInt ≤ 999999) ∧ (0 ≤ a2.toInt ∧ a2.toInt ≤ 359)) ∧ 5 ≤ fO h0 52 2 ∧ x.toInt = -3 ∧ fO h' 52 2 = fO h0 52 2 ∨ ((0 ≤ a1.toInt ∧ a1.toInt ≤ 999999) ∧ (0 ≤ a2.toInt ∧ a2.toInt ≤ 359)) ∧ fO h0 52 2 < 5 ∧ x.toInt = fO h0 52 2 + 1 ∧ fO h' 52 2 = fO h0 52 2 + 1)) → OK h' → un [53, 54, 6202] h0 h' → ((((0 ≤ a1.toInt ∧ a1.toInt ≤ 999999) ∧ (0 ≤ a2.toInt ∧ a2.toInt ≤ 359)) ∧ fO h0 52 2 < 5 → arI h' 53 = (arI h0 53).set (fO h0 52 2).toNat a1 ∧ arI h' 54 = (arI h0 54).set (fO h0 52 2).toNat a2) ∧ (¬ (((0 ≤ a1.toInt ∧ a1.toInt ≤ 999999) ∧ (0 ≤ a2.toInt ∧ a2.toInt ≤ 359)) ∧ fO h0 52 2 < 5) → arI h' 53 = arI h0 53 ∧ arI h' 54 = arI h0 54)) → Q r h') : uCall Mt (d + 3) 147 [(.inr (.inr (some 0))), (.inl a1), (.inl a2)] h0 kc ks Q := by
  have l_m3 : ((-3) : Int32).toInt = -3 := by decide
  have l_m1 : ((-1) : Int32).toInt = -1 := by decide
  have l_0 : ((0) : Int32).toInt = 0 := by decide
  have l_5 : ((5) : Int32).toInt = 5 := by decide
  have l_359 : ((359) : Int32).toInt = 359 := by decide
  have l_999999 : ((999999) : Int32).toInt = 999999 := by decide
  refine uc_ink [some (.inr (.inr (some 0))), some (.inl a1), some (.inl a2)] mt_147 (Nat.le_of_ble_eq_true rfl) rfl ?_
  obtain ⟨f2, hc1, k3⟩ := ok_52 hO0
  have t4 := fO_of (k := 2) hc1 rfl
  refine ur_ldI rfl rfl ?_
  refine ur_callv rfl rfl (Nat.le_of_ble_eq_true rfl) (Nat.le_of_ble_eq_true rfl) rfl (sp_isDay _ _) ?_
  refine ur_eqB rfl (fun c7 => ?_) (fun c7 => ?_)
  · have t8 := wi_noL c7 l_0 l_999999
    refine ur_push rfl ?_
    exact ur_ret rfl rfl (hQ _ _ ⟨_, rfl, by omega⟩ hO0 un.rf ⟨fun q => by exfalso; omega, fun _ => ⟨rfl, rfl⟩⟩)
  · have t9 := wi_toL c7 l_0 l_999999
    refine ur_ldI rfl rfl ?_
    refine ur_push rfl ?_
    refine ur_push rfl ?_
    refine ur_callv rfl rfl (Nat.le_of_ble_eq_true rfl) (Nat.le_of_ble_eq_true rfl) rfl (sp_within _ _ _ _ _) ?_
    refine ur_neB rfl (fun c12 => ?_) (fun c12 => ?_)
    · have t13 := wi_toL c12 l_0 l_359
      refine ur_ldA rfl rfl ?_
      obtain ⟨hc14, k15⟩ := ok_0 hO0
      refine ur_get rfl hc14 rfl ?_
      refine ur_get rfl hc1 rfl ?_
      refine ur_push rfl ?_
      refine ur_if2 rfl (fun c16 => ?_) (fun c16 => ?_)
      · have t17 := lt_to c16
        refine ur_ldA rfl rfl ?_
        refine ur_get rfl hc14 rfl ?_
        refine ur_ldI rfl rfl ?_
        refine ur_ldI rfl rfl ?_
        refine ur_inl rfl (rcv_of hc1) (Nat.le_of_ble_eq_true rfl) (Nat.le_of_ble_eq_true rfl) (se_X3_addEvening hO0 _ _ (fun w18 h21 hr19 hO21 hv21 hp20 => ?_))
        have hu21 := hv21
        obtain ⟨x22, rfl, t23⟩ := hr19
        show uRun _ (uCall Mt _) _ 43 (_, [(.inl x22)], _, _, _)
        obtain ⟨f25, hc24, k26⟩ := ok_52 hO21
        have t27 := fO_of (k := 2) hc24 rfl
        exact ur_ret rfl rfl (hQ _ _ ⟨_, rfl, by omega⟩ hO21 hu21 ⟨fun q => hp20.1 (by omega), fun q => hp20.2 (by omega)⟩)
      · have t28 := lt_no c16
        refine ur_push rfl ?_
        exact ur_ret rfl rfl (hQ _ _ ⟨_, rfl, by omega⟩ hO0 un.rf ⟨fun q => by exfalso; omega, fun _ => ⟨rfl, rfl⟩⟩)
    · have t29 := wi_noL c12 l_0 l_359
      refine ur_push rfl ?_
      exact ur_ret rfl rfl (hQ _ _ ⟨_, rfl, by omega⟩ hO0 un.rf ⟨fun q => by exfalso; omega, fun _ => ⟨rfl, rfl⟩⟩)

set_option maxRecDepth 20000 in
set_option maxHeartbeats 4000000 in
theorem se_X12_observed {d kc ks : Nat} {h0 : aH} {Q : Option aV → aH → Prop} (hO0 : OK h0) (a1 : Int32) (a2 : Int32) (hQ : ∀ r h', (∃ x : Int32, r = some (.inl x) ∧ (¬ ((0 ≤ a1.toInt ∧ a1.toInt ≤ 999999) ∧ (0 ≤ a2.toInt ∧ a2.toInt ≤ 359)) ∧ x.toInt = -1 ∧ fI h' 57 = fI h0 57 ∨ ((0 ≤ a1.toInt ∧ a1.toInt ≤ 999999) ∧ (0 ≤ a2.toInt ∧ a2.toInt ≤ 359)) ∧ 5 ≤ fI h0 57 ∧ x.toInt = -3 ∧ fI h' 57 = fI h0 57 ∨ ((0 ≤ a1.toInt ∧ a1.toInt ≤ 999999) ∧ (0 ≤ a2.toInt ∧ a2.toInt ≤ 359)) ∧ fI h0 57 < 5 ∧ x.toInt = fI h0 57 + 1 ∧ fI h' 57 = fI h0 57 + 1)) → OK h' → un [107, 108, 7957] h0 h' → ((((0 ≤ a1.toInt ∧ a1.toInt ≤ 999999) ∧ (0 ≤ a2.toInt ∧ a2.toInt ≤ 359)) ∧ fI h0 57 < 5 → arI h' 107 = (arI h0 107).set (fI h0 57).toNat a1 ∧ arI h' 108 = (arI h0 108).set (fI h0 57).toNat a2) ∧ (¬ (((0 ≤ a1.toInt ∧ a1.toInt ≤ 999999) ∧ (0 ≤ a2.toInt ∧ a2.toInt ≤ 359)) ∧ fI h0 57 < 5) → arI h' 107 = arI h0 107 ∧ arI h' 108 = arI h0 108)) → Q r h') : uCall Mt (d + 3) 267 [(.inr (.inr (some 69))), (.inl a1), (.inl a2)] h0 kc ks Q := by
  have l_m3 : ((-3) : Int32).toInt = -3 := by decide
  have l_m1 : ((-1) : Int32).toInt = -1 := by decide
  have l_0 : ((0) : Int32).toInt = 0 := by decide
  have l_1 : ((1) : Int32).toInt = 1 := by decide
  have l_5 : ((5) : Int32).toInt = 5 := by decide
  have l_359 : ((359) : Int32).toInt = 359 := by decide
  have l_999999 : ((999999) : Int32).toInt = 999999 := by decide
  refine uc_ink [some (.inr (.inr (some 69))), some (.inl a1), some (.inl a2)] mt_267 (Nat.le_of_ble_eq_true rfl) rfl ?_
  obtain ⟨fs1, hc2⟩ := hO0.mod
  obtain ⟨f3, p4, t5⟩ := mf_57 hO0 hc2
  have t6 := fI_of hc2 p4
  refine ur_ldI rfl rfl ?_
  refine ur_callv rfl rfl (Nat.le_of_ble_eq_true rfl) (Nat.le_of_ble_eq_true rfl) rfl (sq_isDay _ _) ?_
  refine ur_eqB rfl (fun c9 => ?_) (fun c9 => ?_)
  · have t10 := wi_noL c9 l_0 l_999999
    refine ur_push rfl ?_
    exact ur_ret rfl rfl (hQ _ _ ⟨_, rfl, by omega⟩ hO0 un.rf ⟨fun q => by exfalso; omega, fun _ => ⟨rfl, rfl⟩⟩)
  · have t11 := wi_toL c9 l_0 l_999999
    refine ur_ldI rfl rfl ?_
    refine ur_push rfl ?_
    refine ur_push rfl ?_
    refine ur_callv rfl rfl (Nat.le_of_ble_eq_true rfl) (Nat.le_of_ble_eq_true rfl) rfl (sp_in _ _ _ _ _) ?_
    refine ur_neB rfl (fun c14 => ?_) (fun c14 => ?_)
    · have t15 := wi_toL c14 l_0 l_359
      refine ur_ldA rfl rfl ?_
      refine ur_get rfl hc2 p4 ?_
      refine ur_push rfl ?_
      refine ur_if2 rfl (fun c16 => ?_) (fun c16 => ?_)
      · have t17 := ne_to c16
        refine ur_ldA rfl rfl ?_
        refine ur_get rfl hc2 (mf_58 hO0 hc2) ?_
        refine ur_ldA rfl rfl ?_
        refine ur_get rfl hc2 p4 ?_
        refine ur_ldI rfl rfl ?_
        obtain ⟨xs19, hc18, hn20, he21⟩ := hO0.int (hO0.fix 107 (by decide) rfl)
        refine ur_astV (W := [107, 108, 7957]) (m := 5) rfl hO0 hc18 (by decide) hn20 (by omega) (any_r _) (Or.inr (Or.inr (wid_fix (by decide) (by decide)))) (fun h24 hO24 hu24 d22 hc23 => ?_)
        have w25 : wI h0 h24 107 ((arI h0 107).set (f3 : Int32).toInt.toNat a1) := ⟨by rw [arI_of hc23, arI_of hc18], d22⟩
        refine ur_ldA rfl rfl ?_
        refine ur_get rfl ((d22 _ (by decide)).trans hc2) (mf_59 hO24 ((d22 _ (by decide)).trans hc2)) ?_
        refine ur_ldA rfl rfl ?_
        have t26 := fI_of ((d22 _ (by decide)).trans hc2) p4
        refine ur_get rfl ((d22 _ (by decide)).trans hc2) p4 ?_
        refine ur_ldI rfl rfl ?_
        obtain ⟨xs28, hc27, hn29, he30⟩ := hO24.int (hO24.fix 108 (by decide) rfl)
        refine ur_astV (W := [107, 108, 7957]) (m := 5) rfl hO24 hc27 (by decide) hn29 (by omega) (any_r _) (Or.inr (Or.inr (wid_fix (by decide) (by decide)))) (fun h33 hO33 hu33 d31 hc32 => ?_)
        have w34 : wI h24 h33 108 ((arI h24 108).set (f3 : Int32).toInt.toNat a2) := ⟨by rw [arI_of hc32, arI_of hc27], d31⟩
        refine ur_ldA rfl rfl ?_
        refine ur_dup rfl rfl ?_
        have t35 := fI_of ((d31 _ (by decide)).trans ((d22 _ (by decide)).trans hc2)) p4
        refine ur_get rfl ((d31 _ (by decide)).trans ((d22 _ (by decide)).trans hc2)) p4 ?_
        refine ur_push rfl ?_
        refine ur_binV rfl (fun x36 e37 => ?_)
        have z38 := any_r f3
        have t39 := ti_add e37 (by omega) (by omega)
        refine ur_putM (W := [107, 108, 7957]) rfl hO33 ((d31 _ (by decide)).trans ((d22 _ (by decide)).trans hc2)) (by decide) rfl (ms_57 (hO33.msh ((d31 _ (by decide)).trans ((d22 _ (by decide)).trans hc2))) (show 0 ≤ x36.toInt ∧ x36.toInt ≤ 5 by omega)) (Or.inr (by decide)) (fun h41 hO41 hu41 d40 hc42 => ?_)
        have t43 := fI_of hc42 (gs_eq p4)
        refine ur_ldA rfl rfl ?_
        refine ur_get rfl hc42 (gs_eq p4) ?_
        exact ur_ret rfl rfl (hQ _ _ ⟨_, rfl, by omega⟩ hO41 (hu24.tr (hu33.tr hu41)) ⟨fun _ => ⟨by rw [show (fI h0 57).toNat = f3.toInt.toNat by omega]; exact (((arI_c (d40 107 (by decide))).trans rfl).trans ((w34.oI (by decide)).trans w25.1)), by rw [show (fI h0 57).toNat = f3.toInt.toNat by omega, show arI h0 108 = arI h24 108 from (w25.oI (by decide)).symm]; exact (((arI_c (d40 108 (by decide))).trans rfl).trans w34.1)⟩, fun q => absurd (by omega) q⟩)
      · have t44 := ne_no c16
        refine ur_push rfl ?_
        exact ur_ret rfl rfl (hQ _ _ ⟨_, rfl, by omega⟩ hO0 un.rf ⟨fun q => by exfalso; omega, fun _ => ⟨rfl, rfl⟩⟩)
    · have t45 := wi_noL c14 l_0 l_359
      refine ur_push rfl ?_
      exact ur_ret rfl rfl (hQ _ _ ⟨_, rfl, by omega⟩ hO0 un.rf ⟨fun q => by exfalso; omega, fun _ => ⟨rfl, rfl⟩⟩)
end EVN
