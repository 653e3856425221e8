/-! WHAT A WORD HOLDS in the reference, printed by program but for its head -/
section OWM
/-- eight arrays are written at one place -/
def E8 (h h' : aH) (n : Int) (ki pe y m d re sl mo : Int32) : Prop := arI h' 96 = (arI h 96).set n.toNat ki ∧ arI h' 97 = (arI h 97).set n.toNat pe ∧ arI h' 98 = (arI h 98).set n.toNat y ∧ arI h' 99 = (arI h 99).set n.toNat m ∧ arI h' 100 = (arI h 100).set n.toNat d ∧ arI h' 101 = (arI h 101).set n.toNat re ∧ arI h' 102 = (arI h 102).set n.toNat sl ∧ arI h' 103 = (arI h 103).set n.toNat mo
def KWm (h h' : aH) : Prop := ∀ a : Nat, 96 ≤ a → a ≤ 103 → ∀ i : Int, 0 ≤ i → i < fI h 38 → gI h' a i = gI h a i
theorem KWm.rf {h : aH} : KWm h h := fun _ _ _ _ _ _ => rfl
theorem KWm.tr {a b c : aH} (g : KWm a b) (k : KWm b c) (l : fI a 38 ≤ fI b 38) : KWm a c := fun x h0 h1 i i0 i1 => (k x h0 h1 i i0 (by omega)).trans (g x h0 h1 i i0 i1)
theorem KWm.un {W : List Nat} {h h' : aH} (hO : OK h) (g : un W h h') (hw : ∀ a ∈ [96, 97, 98, 99, 100, 101, 102, 103], a ∉ W) : KWm h h' := fun a h0 h1 i _ _ => by
  rcases (show a = 96 ∨ a = 97 ∨ a = 98 ∨ a = 99 ∨ a = 100 ∨ a = 101 ∨ a = 102 ∨ a = 103 by omega) with q | q | q | q | q | q | q | q <;> subst q <;> exact gI_keep (kd := 0) (n := 150) hO g i (by decide) rfl (by decide) rfl (by decide) (hw _ (by decide))
def NWm (h : aH) (i ki pe re sl y m d mo : Int) : Prop := gI h 96 i = ki ∧ gI h 97 i = pe ∧ gI h 101 i = re ∧ gI h 102 i = sl ∧ gI h 98 i = y ∧ gI h 99 i = m ∧ gI h 100 i = d ∧ gI h 103 i = mo
theorem NWm.k {h h' : aH} {i ki pe re sl y m d mo : Int} (g : NWm h i ki pe re sl y m d mo) (k : KWm h h') (h0 : 0 ≤ i) (h1 : i < fI h 38) : NWm h' i ki pe re sl y m d mo := by
  unfold NWm
  rw [k 96 (by decide) (by decide) i h0 h1, k 97 (by decide) (by decide) i h0 h1, k 98 (by decide) (by decide) i h0 h1, k 99 (by decide) (by decide) i h0 h1, k 100 (by decide) (by decide) i h0 h1, k 101 (by decide) (by decide) i h0 h1, k 102 (by decide) (by decide) i h0 h1, k 103 (by decide) (by decide) i h0 h1]
  exact g
theorem NWm.c {h : aH} {i i' ki pe re sl y m d mo ki' pe' re' sl' y' m' d' mo' : Int} (g : NWm h i ki pe re sl y m d mo) (e0 : i' = i) (e1 : ki' = ki) (e2 : pe' = pe) (e3 : re' = re) (e4 : sl' = sl) (e5 : y' = y) (e6 : m' = m) (e7 : d' = d) (e8 : mo' = mo) : NWm h i' ki' pe' re' sl' y' m' d' mo' := by
  subst e0 e1 e2 e3 e4 e5 e6 e7 e8
  exact g
theorem am_len {h : aH} {a n : Nat} (hO : OK h) (ha : a < 114) (ht : T0.getD a (999, 0) = (0, n)) : (arI h a).length = n := by
  obtain ⟨xs, hc, hn, he⟩ := hO.int (hO.fix a ha ht)
  rw [arI_of hc]
  exact hn
theorem am_st {h h' : aH} {a : Nat} {p : Int} {v : Int32} (hl : (arI h a).length = 150) (e : arI h' a = (arI h a).set p.toNat v) (hp : 0 ≤ p ∧ p ≤ 149) : gI h' a p = v.toInt ∧ ∀ j : Int, 0 ≤ j → j < p → gI h' a j = gI h a j := by
  unfold gI
  rw [e]
  refine ⟨?_, fun j h0 h1 => ?_⟩
  · rw [List.getD_eq_getElem?_getD, List.getElem?_set_self (by omega)]
    rfl
  · rw [List.getD_eq_getElem?_getD, List.getElem?_set_ne (by omega), ← List.getD_eq_getElem?_getD]
theorem E8.k {h h' : aH} {ki pe y m d re sl mo : Int32} (hO : OK h) (e : E8 h h' (fI h 38) ki pe y m d re sl mo) (hn : 0 ≤ fI h 38 ∧ fI h 38 ≤ 149) : KWm h h' ∧ NWm h' (fI h 38) ki.toInt pe.toInt re.toInt sl.toInt y.toInt m.toInt d.toInt mo.toInt := by
  obtain ⟨e1, e2, e3, e4, e5, e6, e7, e8⟩ := e
  have s1 := am_st (am_len (a := 96) hO (by decide) rfl) e1 hn
  have s2 := am_st (am_len (a := 97) hO (by decide) rfl) e2 hn
  have s3 := am_st (am_len (a := 98) hO (by decide) rfl) e3 hn
  have s4 := am_st (am_len (a := 99) hO (by decide) rfl) e4 hn
  have s5 := am_st (am_len (a := 100) hO (by decide) rfl) e5 hn
  have s6 := am_st (am_len (a := 101) hO (by decide) rfl) e6 hn
  have s7 := am_st (am_len (a := 102) hO (by decide) rfl) e7 hn
  have s8 := am_st (am_len (a := 103) hO (by decide) rfl) e8 hn
  refine ⟨fun a h0 h1 i i0 i1 => ?_, s1.1, s2.1, s6.1, s7.1, s3.1, s4.1, s5.1, s8.1⟩
  rcases (show a = 96 ∨ a = 97 ∨ a = 98 ∨ a = 99 ∨ a = 100 ∨ a = 101 ∨ a = 102 ∨ a = 103 by omega) with q | q | q | q | q | q | q | q <;> subst q
  · exact s1.2 i i0 i1
  · exact s2.2 i i0 i1
  · exact s3.2 i i0 i1
  · exact s4.2 i i0 i1
  · exact s5.2 i i0 i1
  · exact s6.2 i i0 i1
  · exact s7.2 i i0 i1
  · exact s8.2 i i0 i1
def NWRm (h0 h : aH) (p i w pe : Int) (j : Nat) : Prop := NWm h (w + (j : Int)) (fl h0 112 (60 * p + (i + 5 * (j : Int)) + 4)) pe (-1) (fl h0 112 (60 * p + (i + 5 * (j : Int)) + 3)) (fl h0 112 (60 * p + (i + 5 * (j : Int)) + 0)) (fl h0 112 (60 * p + (i + 5 * (j : Int)) + 1)) (fl h0 112 (60 * p + (i + 5 * (j : Int)) + 2)) (-1)
/-- the root of a word: along what it is copied of -/
def rtF (k m : Int → Int) : Nat → Int → Int
  | 0, i => i
  | n + 1, i => if k i = 3 then rtF k m n (m i) else i
def rt (h : aH) (i : Int) : Int := rtF (gI h 96) (gI h 103) 200 i
def CEm (h : aH) : Prop := ∀ i : Int, 0 ≤ i → i < fI h 38 → gI h 96 i = 3 → 0 ≤ gI h 103 i ∧ gI h 103 i < i
theorem CEm_of {h : aH} (hO : OK h) (hX : SX h) : CEm h := fun i h0 h1 k => by
  obtain ⟨xs, hc, hn, he⟩ := hO.int (hO.fix 96 (by decide) rfl)
  obtain ⟨ys, hd, hm, hf⟩ := hO.int (hO.fix 103 (by decide) rfl)
  have hb : i.toNat < 150 := by
    obtain ⟨fs, q⟩ := hO.mod
    have := mf_38 hO q
    obtain ⟨x, p, r⟩ := this
    have := fI_of q p
    omega
  obtain ⟨x, hx⟩ : ∃ x, xs[i.toNat]? = some x := ⟨_, List.getElem?_eq_getElem (by omega)⟩
  obtain ⟨y, hy⟩ : ∃ y, ys[i.toNat]? = some y := ⟨_, List.getElem?_eq_getElem (by omega)⟩
  have e1 : gI h 96 i = x.toInt := by unfold gI; rw [arI_of hc, List.getD_eq_getElem?_getD, hx]; rfl
  have e2 : gI h 103 i = y.toInt := by unfold gI; rw [arI_of hd, List.getD_eq_getElem?_getD, hy]; rfl
  have := hX.2.2.2.1 i.toNat x y (by rw [arI_of hc]; exact hx) (by rw [arI_of hd]; exact hy) (by omega) (by omega)
  omega
theorem rtF_st {k m : Int → Int} {c : Int} (hc : ∀ i : Int, 0 ≤ i → i < c → k i = 3 → 0 ≤ m i ∧ m i < i) : ∀ (n : Nat) (i : Int), 0 ≤ i → i < c → i < (n : Int) → (rtF k m n i = rtF k m (n + 1) i) ∧ (0 ≤ rtF k m n i ∧ rtF k m n i ≤ i) ∧ k (rtF k m n i) ≠ 3 := by
  intro n
  induction n with
  | zero => intro i h0 _ h2; omega
  | succ n ih =>
    intro i h0 h1 h2
    by_cases q : k i = 3
    · have b := hc i h0 h1 q
      obtain ⟨a1, a2, a3⟩ := ih (m i) b.1 (by omega) (by omega)
      have e1 : rtF k m (n + 1) i = rtF k m n (m i) := by show (if k i = 3 then _ else _) = _; rw [if_pos q]
      have e2 : rtF k m (n + 1 + 1) i = rtF k m (n + 1) (m i) := by show (if k i = 3 then _ else _) = _; rw [if_pos q]
      rw [e1, e2]
      exact ⟨a1, ⟨a2.1, by omega⟩, a3⟩
    · have e1 : rtF k m (n + 1) i = i := by show (if k i = 3 then _ else _) = _; rw [if_neg q]
      have e2 : rtF k m (n + 1 + 1) i = i := by show (if k i = 3 then _ else _) = _; rw [if_neg q]
      rw [e1, e2]
      exact ⟨rfl, ⟨h0, Int.le_refl _⟩, q⟩
theorem rt_0 {h : aH} {i : Int} (q : gI h 96 i ≠ 3) : rt h i = i := by
  unfold rt
  show (if gI h 96 i = 3 then _ else _) = _
  rw [if_neg q]
theorem rt_s {h : aH} {i : Int} (c : CEm h) (hn : fI h 38 ≤ 150) (h0 : 0 ≤ i) (h1 : i < fI h 38) (q : gI h 96 i = 3) : rt h i = rt h (gI h 103 i) := by
  have b := c i h0 h1 q
  have e := (rtF_st c 199 (gI h 103 i) b.1 (by omega) (by omega)).1
  unfold rt
  show (if gI h 96 i = 3 then rtF (gI h 96) (gI h 103) 199 (gI h 103 i) else _) = _
  rw [if_pos q, e]
theorem rt_r {h : aH} {i : Int} (c : CEm h) (hn : fI h 38 ≤ 150) (h0 : 0 ≤ i) (h1 : i < fI h 38) : (0 ≤ rt h i ∧ rt h i ≤ i) ∧ gI h 96 (rt h i) ≠ 3 := (rtF_st c 200 i h0 h1 (by omega)).2
theorem rtF_c {k m k' m' : Int → Int} {c : Int} (hc : ∀ i : Int, 0 ≤ i → i < c → k i = 3 → 0 ≤ m i ∧ m i < i) (e : ∀ i : Int, 0 ≤ i → i < c → k' i = k i ∧ m' i = m i) : ∀ (n : Nat) (i : Int), 0 ≤ i → i < c → rtF k' m' n i = rtF k m n i := by
  intro n
  induction n with
  | zero => intro i _ _; rfl
  | succ n ih =>
    intro i h0 h1
    show (if k' i = 3 then rtF k' m' n (m' i) else i) = (if k i = 3 then rtF k m n (m i) else i)
    rw [(e i h0 h1).1, (e i h0 h1).2]
    by_cases q : k i = 3
    · have b := hc i h0 h1 q
      rw [if_pos q, if_pos q, ih (m i) b.1 (by omega)]
    · rw [if_neg q, if_neg q]
theorem rt_c {h h' : aH} {i : Int} (c : CEm h) (k : KWm h h') (h0 : 0 ≤ i) (h1 : i < fI h 38) : rt h' i = rt h i := rtF_c c (fun j j0 j1 => ⟨k 96 (by decide) (by decide) j j0 j1, k 103 (by decide) (by decide) j j0 j1⟩) 200 i h0 h1
theorem dzG {G : Prop} {mo c : Int32} (w1 : G → mo.toInt = -1) (w2 : ¬ G → mo = c) : (G ∧ mo.toInt = -1) ∨ (¬ G ∧ mo.toInt = c.toInt) := by
  by_cases q : G
  · exact Or.inl ⟨q, w1 q⟩
  · exact Or.inr ⟨q, congrArg _ (w2 q)⟩
set_option maxRecDepth 20000 in
set_option maxHeartbeats 4000000 in
theorem se_X12_newWord {d kc ks : Nat} {h0 : aH} {Q : Option aV → aH → Prop} (hO0 : OK h0) (hX0 : SX h0) (a1 : Int32) (b1 : 0 ≤ a1.toInt ∧ a1.toInt ≤ 7) (a2 : Int32) (b2 : 0 ≤ a2.toInt ∧ a2.toInt ≤ 8) (a3 : Int32) (a4 : Int32) (a5 : Int32) (a6 : Int32) (b6 : -1 ≤ a6.toInt ∧ a6.toInt ≤ 19) (a7 : Int32) (a8 : Int32) (pre0 : fI h0 38 ≤ 149) (pre1 : a1.toInt = 1 ∨ a1.toInt = 6 → 0 ≤ a8.toInt ∧ a8.toInt ≤ 23) (pre2 : a1.toInt = 2 ∨ a1.toInt = 7 → 0 ≤ a8.toInt ∧ a8.toInt ≤ 1) (pre3 : a1.toInt = 3 → 0 ≤ a8.toInt ∧ a8.toInt < fI h0 38) (hQ : ∀ r h', (∃ x : Int32, r = some (.inl x) ∧ (x.toInt = fI h0 38 ∧ fI h' 38 = fI h0 38 + 1)) → OK h' → un [96, 97, 98, 99, 100, 101, 102, 103, 7938] h0 h' → (fI h' 38 = fI h0 38 + 1) → (SX h') → (∃ mo : Int32, E8 h0 h' (fI h0 38) a1 a2 a3 a4 a5 a6 a7 mo ∧ ((a1.toInt = 0 ∨ a1.toInt = 4 ∨ a1.toInt = 5) → mo.toInt = -1) ∧ (¬ (a1.toInt = 0 ∨ a1.toInt = 4 ∨ a1.toInt = 5) → mo = a8)) → Q r h') : uCall Mt (d + 2) 238 [(.inr (.inr (some 69))), (.inl a1), (.inl a2), (.inl a3), (.inl a4), (.inl a5), (.inl a6), (.inl a7), (.inl a8)] h0 kc ks Q := by
  have l_m1 : ((-1) : Int32).toInt = -1 := by decide
  have l_1 : ((1) : Int32).toInt = 1 := by decide
  have l_3 : ((3) : Int32).toInt = 3 := by decide
  refine uc_ink [some (.inr (.inr (some 69))), some (.inl a1), some (.inl a2), some (.inl a3), some (.inl a4), some (.inl a5), some (.inl a6), some (.inl a7), some (.inl a8)] mt_238 (Nat.le_of_ble_eq_true rfl) rfl ?_
  obtain ⟨fs1, hc2⟩ := hO0.mod
  obtain ⟨f3, p4, t5⟩ := mf_38 hO0 hc2
  have t6 := fI_of hc2 p4
  obtain ⟨xs8, hc7, hn9, he10⟩ := hO0.int (hO0.fix 96 (by decide) rfl)
  obtain ⟨xs12, hc11, hn13, he14⟩ := hO0.int (hO0.fix 103 (by decide) rfl)
  refine ur_ldA rfl rfl ?_
  refine ur_get rfl hc2 (mf_39 hO0 hc2) ?_
  refine ur_ldA rfl rfl ?_
  refine ur_get rfl hc2 p4 ?_
  refine ur_ldI rfl rfl ?_
  refine ur_astV (W := [96]) (m := 150) rfl hO0 hc7 (by decide) hn9 (by omega) (by show 0 ≤ a1.toInt ∧ a1.toInt ≤ 7; omega) (Or.inr (Or.inr (wid_fix (by decide) (by decide)))) (fun h17 hO17 hv17 d15 hc16 => ?_)
  have hu17 : un [96, 97, 98, 99, 100, 101, 102, 103, 7938] h0 h17 := hv17.mono (by decide)
  have w18 : wI h0 h17 96 ((arI h0 96).set (f3 : Int32).toInt.toNat a1) := ⟨by rw [arI_of hc16, arI_of hc7], d15⟩
  refine ur_ldA rfl rfl ?_
  refine ur_get rfl ((d15 _ (by decide)).trans hc2) (mf_40 hO17 ((d15 _ (by decide)).trans hc2)) ?_
  refine ur_ldA rfl rfl ?_
  have t19 := fI_of ((d15 _ (by decide)).trans hc2) p4
  refine ur_get rfl ((d15 _ (by decide)).trans hc2) p4 ?_
  refine ur_ldI rfl rfl ?_
  obtain ⟨xs21, hc20, hn22, he23⟩ := hO17.int (hO17.fix 97 (by decide) rfl)
  refine ur_astV (W := [97]) (m := 150) rfl hO17 hc20 (by decide) hn22 (by omega) (by show 0 ≤ a2.toInt ∧ a2.toInt ≤ 8; omega) (Or.inr (Or.inr (wid_fix (by decide) (by decide)))) (fun h26 hO26 hv26 d24 hc25 => ?_)
  have hu26 : un [96, 97, 98, 99, 100, 101, 102, 103, 7938] h17 h26 := hv26.mono (by decide)
  have w27 : wI h17 h26 97 ((arI h17 97).set (f3 : Int32).toInt.toNat a2) := ⟨by rw [arI_of hc25, arI_of hc20], d24⟩
  refine ur_ldA rfl rfl ?_
  refine ur_get rfl ((d24 _ (by decide)).trans ((d15 _ (by decide)).trans hc2)) (mf_41 hO26 ((d24 _ (by decide)).trans ((d15 _ (by decide)).trans hc2))) ?_
  refine ur_ldA rfl rfl ?_
  have t28 := fI_of ((d24 _ (by decide)).trans ((d15 _ (by decide)).trans hc2)) p4
  refine ur_get rfl ((d24 _ (by decide)).trans ((d15 _ (by decide)).trans hc2)) p4 ?_
  refine ur_ldI rfl rfl ?_
  obtain ⟨xs30, hc29, hn31, he32⟩ := hO26.int (hO26.fix 98 (by decide) rfl)
  refine ur_astV (W := [98]) (m := 150) rfl hO26 hc29 (by decide) hn31 (by omega) (any_r _) (Or.inr (Or.inr (wid_fix (by decide) (by decide)))) (fun h35 hO35 hv35 d33 hc34 => ?_)
  have hu35 : un [96, 97, 98, 99, 100, 101, 102, 103, 7938] h26 h35 := hv35.mono (by decide)
  have w36 : wI h26 h35 98 ((arI h26 98).set (f3 : Int32).toInt.toNat a3) := ⟨by rw [arI_of hc34, arI_of hc29], d33⟩
  refine ur_ldA rfl rfl ?_
  have hc37 := ((d33 _ (by decide)).trans ((d24 _ (by decide)).trans ((d15 _ (by decide)).trans hc2)))
  refine ur_get rfl hc37 (mf_42 hO35 hc37) ?_
  refine ur_ldA rfl rfl ?_
  have t38 := fI_of hc37 p4
  refine ur_get rfl hc37 p4 ?_
  refine ur_ldI rfl rfl ?_
  obtain ⟨xs40, hc39, hn41, he42⟩ := hO35.int (hO35.fix 99 (by decide) rfl)
  refine ur_astV (W := [99]) (m := 150) rfl hO35 hc39 (by decide) hn41 (by omega) (any_r _) (Or.inr (Or.inr (wid_fix (by decide) (by decide)))) (fun h45 hO45 hv45 d43 hc44 => ?_)
  have hu45 : un [96, 97, 98, 99, 100, 101, 102, 103, 7938] h35 h45 := hv45.mono (by decide)
  have w46 : wI h35 h45 99 ((arI h35 99).set (f3 : Int32).toInt.toNat a4) := ⟨by rw [arI_of hc44, arI_of hc39], d43⟩
  refine ur_ldA rfl rfl ?_
  refine ur_get rfl ((d43 _ (by decide)).trans hc37) (mf_43 hO45 ((d43 _ (by decide)).trans hc37)) ?_
  refine ur_ldA rfl rfl ?_
  have t47 := fI_of ((d43 _ (by decide)).trans hc37) p4
  refine ur_get rfl ((d43 _ (by decide)).trans hc37) p4 ?_
  refine ur_ldI rfl rfl ?_
  obtain ⟨xs49, hc48, hn50, he51⟩ := hO45.int (hO45.fix 100 (by decide) rfl)
  refine ur_astV (W := [100]) (m := 150) rfl hO45 hc48 (by decide) hn50 (by omega) (any_r _) (Or.inr (Or.inr (wid_fix (by decide) (by decide)))) (fun h54 hO54 hv54 d52 hc53 => ?_)
  have hu54 : un [96, 97, 98, 99, 100, 101, 102, 103, 7938] h45 h54 := hv54.mono (by decide)
  have w55 : wI h45 h54 100 ((arI h45 100).set (f3 : Int32).toInt.toNat a5) := ⟨by rw [arI_of hc53, arI_of hc48], d52⟩
  refine ur_ldA rfl rfl ?_
  refine ur_get rfl ((d52 _ (by decide)).trans ((d43 _ (by decide)).trans hc37)) (mf_44 hO54 ((d52 _ (by decide)).trans ((d43 _ (by decide)).trans hc37))) ?_
  refine ur_ldA rfl rfl ?_
  have t56 := fI_of ((d52 _ (by decide)).trans ((d43 _ (by decide)).trans hc37)) p4
  refine ur_get rfl ((d52 _ (by decide)).trans ((d43 _ (by decide)).trans hc37)) p4 ?_
  refine ur_ldI rfl rfl ?_
  obtain ⟨xs58, hc57, hn59, he60⟩ := hO54.int (hO54.fix 101 (by decide) rfl)
  refine ur_astV (W := [101]) (m := 150) rfl hO54 hc57 (by decide) hn59 (by omega) (by show -1 ≤ a6.toInt ∧ a6.toInt ≤ 19; omega) (Or.inr (Or.inr (wid_fix (by decide) (by decide)))) (fun h63 hO63 hv63 d61 hc62 => ?_)
  have hu63 : un [96, 97, 98, 99, 100, 101, 102, 103, 7938] h54 h63 := hv63.mono (by decide)
  have w64 : wI h54 h63 101 ((arI h54 101).set (f3 : Int32).toInt.toNat a6) := ⟨by rw [arI_of hc62, arI_of hc57], d61⟩
  refine ur_ldA rfl rfl ?_
  have hc65 := ((d61 _ (by decide)).trans ((d52 _ (by decide)).trans ((d43 _ (by decide)).trans hc37)))
  refine ur_get rfl hc65 (mf_45 hO63 hc65) ?_
  refine ur_ldA rfl rfl ?_
  have t66 := fI_of hc65 p4
  refine ur_get rfl hc65 p4 ?_
  refine ur_ldI rfl rfl ?_
  obtain ⟨xs68, hc67, hn69, he70⟩ := hO63.int (hO63.fix 102 (by decide) rfl)
  refine ur_astV (W := [102]) (m := 150) rfl hO63 hc67 (by decide) hn69 (by omega) (any_r _) (Or.inr (Or.inr (wid_fix (by decide) (by decide)))) (fun h73 hO73 hv73 d71 hc72 => ?_)
  have hu73 : un [96, 97, 98, 99, 100, 101, 102, 103, 7938] h63 h73 := hv73.mono (by decide)
  have w74 : wI h63 h73 102 ((arI h63 102).set (f3 : Int32).toInt.toNat a7) := ⟨by rw [arI_of hc72, arI_of hc67], d71⟩
  refine ur_ldA rfl rfl ?_
  refine ur_get rfl ((d71 _ (by decide)).trans hc65) (mf_46 hO73 ((d71 _ (by decide)).trans hc65)) ?_
  refine ur_ldA rfl rfl ?_
  have t75 := fI_of ((d71 _ (by decide)).trans hc65) p4
  refine ur_get rfl ((d71 _ (by decide)).trans hc65) p4 ?_
  refine ur_ldI rfl rfl ?_
  refine ur_inl rfl rfl (Nat.le_of_ble_eq_true rfl) (Nat.le_of_ble_eq_true rfl) (sd_X12_isLodged hO73 _ (fun w76 hr77 => ?_))
  obtain ⟨b78, rfl, t79, t80⟩ := hr77
  show uRun _ (uCall Mt _) _ 86 (_, [(.inl (bi b78)), (.inl f3), (.inr (.inr (some 103)))], _, _, _)
  refine ur_neB rfl (fun c81 => ?_) (fun c81 => ?_)
  · have t82 := t79 c81
    clear t79 t80
    refine ur_ldI rfl rfl ?_
    refine ur_go rfl ?_
    refine ur_astV (W := [103]) (m := 150) rfl hO73 ((d71 _ (by decide)).trans ((d61 _ (by decide)).trans ((d52 _ (by decide)).trans ((d43 _ (by decide)).trans ((d33 _ (by decide)).trans ((d24 _ (by decide)).trans ((d15 _ (by decide)).trans hc11))))))) (by decide) hn13 (by omega) (by show -1 ≤ a8.toInt ∧ a8.toInt ≤ 149; omega) (Or.inr (Or.inr (wid_fix (by decide) (by decide)))) (fun h85 hO85 hv85 d83 hc84 => ?_)
    have hu85 : un [96, 97, 98, 99, 100, 101, 102, 103, 7938] h73 h85 := hv85.mono (by decide)
    have w86 : wI h73 h85 103 ((arI h73 103).set (f3 : Int32).toInt.toNat a8) := ⟨by rw [arI_of hc84, arI_of ((d71 _ (by decide)).trans ((d61 _ (by decide)).trans ((d52 _ (by decide)).trans ((d43 _ (by decide)).trans ((d33 _ (by decide)).trans ((d24 _ (by decide)).trans ((d15 _ (by decide)).trans hc11)))))))], d83⟩
    refine ur_ldA rfl rfl ?_
    refine ur_dup rfl rfl ?_
    have t87 := fI_of ((d83 _ (by decide)).trans ((d71 _ (by decide)).trans hc65)) p4
    refine ur_get rfl ((d83 _ (by decide)).trans ((d71 _ (by decide)).trans hc65)) p4 ?_
    refine ur_push rfl ?_
    refine ur_binV rfl (fun x88 e89 => ?_)
    have z90 := any_r f3
    have t91 := ti_add e89 (by omega) (by omega)
    refine ur_putM (W := [7938]) rfl hO85 ((d83 _ (by decide)).trans ((d71 _ (by decide)).trans hc65)) (by decide) rfl (ms_38 (hO85.msh ((d83 _ (by decide)).trans ((d71 _ (by decide)).trans hc65))) (show 0 ≤ x88.toInt ∧ x88.toInt ≤ 150 by omega)) (Or.inr (by decide)) (fun h93 hO93 hv93 d92 hc94 => ?_)
    have hu93 : un [96, 97, 98, 99, 100, 101, 102, 103, 7938] h85 h93 := hv93.mono (by decide)
    have t95 := fI_of hc94 (gs_eq p4)
    refine ur_ldA rfl rfl ?_
    refine ur_get rfl hc94 (gs_eq p4) ?_
    refine ur_push rfl ?_
    refine ur_binV rfl (fun x96 e97 => ?_)
    have z98 := any_r x88
    have t99 := ti_sub e97 (by omega) (by omega)
    have hc100 := ((d92 _ (by decide)).trans ((d83 _ (by decide)).trans ((d71 _ (by decide)).trans ((d61 _ (by decide)).trans ((d52 _ (by decide)).trans ((d43 _ (by decide)).trans ((d33 _ (by decide)).trans ((d24 _ (by decide)).trans hc16))))))))
    exact ur_ret rfl rfl (hQ _ _ ⟨_, rfl, by omega⟩ hO93 (hu17.tr (hu26.tr (hu35.tr (hu45.tr (hu54.tr (hu63.tr (hu73.tr (hu85.tr hu93)))))))) (by omega) ⟨hX0.1.un hO0 hO93 (hu17.tr (hu26.tr (hu35.tr (hu45.tr (hu54.tr (hu63.tr (hu73.tr (hu85.tr hu93)))))))) (by decide) (by decide), hX0.2.1.un hO0 hO93 (hu17.tr (hu26.tr (hu35.tr (hu45.tr (hu54.tr (hu63.tr (hu73.tr (hu85.tr hu93)))))))) (by decide) (by decide), hX0.2.2.1.un hO0 hO93 (hu17.tr (hu26.tr (hu35.tr (hu45.tr (hu54.tr (hu63.tr (hu73.tr (hu85.tr hu93)))))))) (by decide) (by decide), WX.push (j := f3) (x := a1) (y := a8) hX0.2.2.2.1 hc7 hc100 hc11 ((d92 _ (by decide)).trans hc84) (by omega) (by omega) (by omega) (by omega), hX0.2.2.2.2.un hO0 (hu17.tr (hu26.tr (hu35.tr (hu45.tr (hu54.tr (hu63.tr (hu73.tr (hu85.tr hu93)))))))) (by decide)⟩ ⟨a8, ⟨(((arI_c (d92 96 (by decide))).trans ((arI_c (d83 96 (by decide))).trans ((arI_c (d71 96 (by decide))).trans ((arI_c (d61 96 (by decide))).trans ((arI_c (d52 96 (by decide))).trans ((arI_c (d43 96 (by decide))).trans ((arI_c (d33 96 (by decide))).trans (arI_c (d24 96 (by decide)))))))))).trans (w18.1.trans (by rw [show arI h0 96 = arI h0 96 from rfl, show (f3 : Int32).toInt.toNat = (fI h0 38).toNat from congrArg Int.toNat (‹fI h0 38 = (f3 : Int32).toInt›).symm]))), (((arI_c (d92 97 (by decide))).trans ((arI_c (d83 97 (by decide))).trans ((arI_c (d71 97 (by decide))).trans ((arI_c (d61 97 (by decide))).trans ((arI_c (d52 97 (by decide))).trans ((arI_c (d43 97 (by decide))).trans (arI_c (d33 97 (by decide))))))))).trans (w27.1.trans (by rw [show arI h17 97 = arI h0 97 from (arI_c (d15 97 (by decide))), show (f3 : Int32).toInt.toNat = (fI h0 38).toNat from congrArg Int.toNat (‹fI h0 38 = (f3 : Int32).toInt›).symm]))), (((arI_c (d92 98 (by decide))).trans ((arI_c (d83 98 (by decide))).trans ((arI_c (d71 98 (by decide))).trans ((arI_c (d61 98 (by decide))).trans ((arI_c (d52 98 (by decide))).trans (arI_c (d43 98 (by decide)))))))).trans (w36.1.trans (by rw [show arI h26 98 = arI h0 98 from ((arI_c (d24 98 (by decide))).trans (arI_c (d15 98 (by decide)))), show (f3 : Int32).toInt.toNat = (fI h0 38).toNat from congrArg Int.toNat (‹fI h0 38 = (f3 : Int32).toInt›).symm]))), (((arI_c (d92 99 (by decide))).trans ((arI_c (d83 99 (by decide))).trans ((arI_c (d71 99 (by decide))).trans ((arI_c (d61 99 (by decide))).trans (arI_c (d52 99 (by decide))))))).trans (w46.1.trans (by rw [show arI h35 99 = arI h0 99 from ((arI_c (d33 99 (by decide))).trans ((arI_c (d24 99 (by decide))).trans (arI_c (d15 99 (by decide))))), show (f3 : Int32).toInt.toNat = (fI h0 38).toNat from congrArg Int.toNat (‹fI h0 38 = (f3 : Int32).toInt›).symm]))), (((arI_c (d92 100 (by decide))).trans ((arI_c (d83 100 (by decide))).trans ((arI_c (d71 100 (by decide))).trans (arI_c (d61 100 (by decide)))))).trans (w55.1.trans (by rw [show arI h45 100 = arI h0 100 from ((arI_c (d43 100 (by decide))).trans ((arI_c (d33 100 (by decide))).trans ((arI_c (d24 100 (by decide))).trans (arI_c (d15 100 (by decide)))))), show (f3 : Int32).toInt.toNat = (fI h0 38).toNat from congrArg Int.toNat (‹fI h0 38 = (f3 : Int32).toInt›).symm]))), (((arI_c (d92 101 (by decide))).trans ((arI_c (d83 101 (by decide))).trans (arI_c (d71 101 (by decide))))).trans (w64.1.trans (by rw [show arI h54 101 = arI h0 101 from ((arI_c (d52 101 (by decide))).trans ((arI_c (d43 101 (by decide))).trans ((arI_c (d33 101 (by decide))).trans ((arI_c (d24 101 (by decide))).trans (arI_c (d15 101 (by decide))))))), show (f3 : Int32).toInt.toNat = (fI h0 38).toNat from congrArg Int.toNat (‹fI h0 38 = (f3 : Int32).toInt›).symm]))), (((arI_c (d92 102 (by decide))).trans (arI_c (d83 102 (by decide)))).trans (w74.1.trans (by rw [show arI h63 102 = arI h0 102 from ((arI_c (d61 102 (by decide))).trans ((arI_c (d52 102 (by decide))).trans ((arI_c (d43 102 (by decide))).trans ((arI_c (d33 102 (by decide))).trans ((arI_c (d24 102 (by decide))).trans (arI_c (d15 102 (by decide)))))))), show (f3 : Int32).toInt.toNat = (fI h0 38).toNat from congrArg Int.toNat (‹fI h0 38 = (f3 : Int32).toInt›).symm]))), ((arI_c (d92 103 (by decide))).trans (w86.1.trans (by rw [show arI h73 103 = arI h0 103 from ((arI_c (d71 103 (by decide))).trans ((arI_c (d61 103 (by decide))).trans ((arI_c (d52 103 (by decide))).trans ((arI_c (d43 103 (by decide))).trans ((arI_c (d33 103 (by decide))).trans ((arI_c (d24 103 (by decide))).trans (arI_c (d15 103 (by decide))))))))), show (f3 : Int32).toInt.toNat = (fI h0 38).toNat from congrArg Int.toNat (‹fI h0 38 = (f3 : Int32).toInt›).symm])))⟩, ⟨fun q => by exfalso; omega, fun _ => rfl⟩⟩)
  · have t101 := t80 c81
    clear t79 t80
    refine ur_ldI rfl rfl ?_
    refine ur_inl rfl rfl (Nat.le_of_ble_eq_true rfl) (Nat.le_of_ble_eq_true rfl) (sd_X12_isSided hO73 _ (fun w102 hr103 => ?_))
    obtain ⟨b104, rfl, t105, t106⟩ := hr103
    show uRun _ (uCall Mt _) _ 93 (_, [(.inl (bi b104)), (.inl f3), (.inr (.inr (some 103)))], _, _, _)
    refine ur_neB rfl (fun c107 => ?_) (fun c107 => ?_)
    · have t108 := t105 c107
      clear t105 t106
      refine ur_ldI rfl rfl ?_
      refine ur_go rfl ?_
      refine ur_astV (W := [103]) (m := 150) rfl hO73 ((d71 _ (by decide)).trans ((d61 _ (by decide)).trans ((d52 _ (by decide)).trans ((d43 _ (by decide)).trans ((d33 _ (by decide)).trans ((d24 _ (by decide)).trans ((d15 _ (by decide)).trans hc11))))))) (by decide) hn13 (by omega) (by show -1 ≤ a8.toInt ∧ a8.toInt ≤ 149; omega) (Or.inr (Or.inr (wid_fix (by decide) (by decide)))) (fun h111 hO111 hv111 d109 hc110 => ?_)
      have hu111 : un [96, 97, 98, 99, 100, 101, 102, 103, 7938] h73 h111 := hv111.mono (by decide)
      have w112 : wI h73 h111 103 ((arI h73 103).set (f3 : Int32).toInt.toNat a8) := ⟨by rw [arI_of hc110, arI_of ((d71 _ (by decide)).trans ((d61 _ (by decide)).trans ((d52 _ (by decide)).trans ((d43 _ (by decide)).trans ((d33 _ (by decide)).trans ((d24 _ (by decide)).trans ((d15 _ (by decide)).trans hc11)))))))], d109⟩
      refine ur_ldA rfl rfl ?_
      refine ur_dup rfl rfl ?_
      have hc113 := ((d109 _ (by decide)).trans ((d71 _ (by decide)).trans hc65))
      have t114 := fI_of hc113 p4
      refine ur_get rfl hc113 p4 ?_
      refine ur_push rfl ?_
      refine ur_binV rfl (fun x115 e116 => ?_)
      have z117 := any_r f3
      have t118 := ti_add e116 (by omega) (by omega)
      refine ur_putM (W := [7938]) rfl hO111 hc113 (by decide) rfl (ms_38 (hO111.msh hc113) (show 0 ≤ x115.toInt ∧ x115.toInt ≤ 150 by omega)) (Or.inr (by decide)) (fun h120 hO120 hv120 d119 hc121 => ?_)
      have hu120 : un [96, 97, 98, 99, 100, 101, 102, 103, 7938] h111 h120 := hv120.mono (by decide)
      have t122 := fI_of hc121 (gs_eq p4)
      refine ur_ldA rfl rfl ?_
      refine ur_get rfl hc121 (gs_eq p4) ?_
      refine ur_push rfl ?_
      refine ur_binV rfl (fun x123 e124 => ?_)
      have z125 := any_r x115
      have t126 := ti_sub e124 (by omega) (by omega)
      have hc127 := ((d119 _ (by decide)).trans ((d109 _ (by decide)).trans ((d71 _ (by decide)).trans ((d61 _ (by decide)).trans ((d52 _ (by decide)).trans ((d43 _ (by decide)).trans ((d33 _ (by decide)).trans ((d24 _ (by decide)).trans hc16))))))))
      exact ur_ret rfl rfl (hQ _ _ ⟨_, rfl, by omega⟩ hO120 (hu17.tr (hu26.tr (hu35.tr (hu45.tr (hu54.tr (hu63.tr (hu73.tr (hu111.tr hu120)))))))) (by omega) ⟨hX0.1.un hO0 hO120 (hu17.tr (hu26.tr (hu35.tr (hu45.tr (hu54.tr (hu63.tr (hu73.tr (hu111.tr hu120)))))))) (by decide) (by decide), hX0.2.1.un hO0 hO120 (hu17.tr (hu26.tr (hu35.tr (hu45.tr (hu54.tr (hu63.tr (hu73.tr (hu111.tr hu120)))))))) (by decide) (by decide), hX0.2.2.1.un hO0 hO120 (hu17.tr (hu26.tr (hu35.tr (hu45.tr (hu54.tr (hu63.tr (hu73.tr (hu111.tr hu120)))))))) (by decide) (by decide), WX.push (j := f3) (x := a1) (y := a8) hX0.2.2.2.1 hc7 hc127 hc11 ((d119 _ (by decide)).trans hc110) (by omega) (by omega) (by omega) (by omega), hX0.2.2.2.2.un hO0 (hu17.tr (hu26.tr (hu35.tr (hu45.tr (hu54.tr (hu63.tr (hu73.tr (hu111.tr hu120)))))))) (by decide)⟩ ⟨a8, ⟨(((arI_c (d119 96 (by decide))).trans ((arI_c (d109 96 (by decide))).trans ((arI_c (d71 96 (by decide))).trans ((arI_c (d61 96 (by decide))).trans ((arI_c (d52 96 (by decide))).trans ((arI_c (d43 96 (by decide))).trans ((arI_c (d33 96 (by decide))).trans (arI_c (d24 96 (by decide)))))))))).trans (w18.1.trans (by rw [show arI h0 96 = arI h0 96 from rfl, show (f3 : Int32).toInt.toNat = (fI h0 38).toNat from congrArg Int.toNat (‹fI h0 38 = (f3 : Int32).toInt›).symm]))), (((arI_c (d119 97 (by decide))).trans ((arI_c (d109 97 (by decide))).trans ((arI_c (d71 97 (by decide))).trans ((arI_c (d61 97 (by decide))).trans ((arI_c (d52 97 (by decide))).trans ((arI_c (d43 97 (by decide))).trans (arI_c (d33 97 (by decide))))))))).trans (w27.1.trans (by rw [show arI h17 97 = arI h0 97 from (arI_c (d15 97 (by decide))), show (f3 : Int32).toInt.toNat = (fI h0 38).toNat from congrArg Int.toNat (‹fI h0 38 = (f3 : Int32).toInt›).symm]))), (((arI_c (d119 98 (by decide))).trans ((arI_c (d109 98 (by decide))).trans ((arI_c (d71 98 (by decide))).trans ((arI_c (d61 98 (by decide))).trans ((arI_c (d52 98 (by decide))).trans (arI_c (d43 98 (by decide)))))))).trans (w36.1.trans (by rw [show arI h26 98 = arI h0 98 from ((arI_c (d24 98 (by decide))).trans (arI_c (d15 98 (by decide)))), show (f3 : Int32).toInt.toNat = (fI h0 38).toNat from congrArg Int.toNat (‹fI h0 38 = (f3 : Int32).toInt›).symm]))), (((arI_c (d119 99 (by decide))).trans ((arI_c (d109 99 (by decide))).trans ((arI_c (d71 99 (by decide))).trans ((arI_c (d61 99 (by decide))).trans (arI_c (d52 99 (by decide))))))).trans (w46.1.trans (by rw [show arI h35 99 = arI h0 99 from ((arI_c (d33 99 (by decide))).trans ((arI_c (d24 99 (by decide))).trans (arI_c (d15 99 (by decide))))), show (f3 : Int32).toInt.toNat = (fI h0 38).toNat from congrArg Int.toNat (‹fI h0 38 = (f3 : Int32).toInt›).symm]))), (((arI_c (d119 100 (by decide))).trans ((arI_c (d109 100 (by decide))).trans ((arI_c (d71 100 (by decide))).trans (arI_c (d61 100 (by decide)))))).trans (w55.1.trans (by rw [show arI h45 100 = arI h0 100 from ((arI_c (d43 100 (by decide))).trans ((arI_c (d33 100 (by decide))).trans ((arI_c (d24 100 (by decide))).trans (arI_c (d15 100 (by decide)))))), show (f3 : Int32).toInt.toNat = (fI h0 38).toNat from congrArg Int.toNat (‹fI h0 38 = (f3 : Int32).toInt›).symm]))), (((arI_c (d119 101 (by decide))).trans ((arI_c (d109 101 (by decide))).trans (arI_c (d71 101 (by decide))))).trans (w64.1.trans (by rw [show arI h54 101 = arI h0 101 from ((arI_c (d52 101 (by decide))).trans ((arI_c (d43 101 (by decide))).trans ((arI_c (d33 101 (by decide))).trans ((arI_c (d24 101 (by decide))).trans (arI_c (d15 101 (by decide))))))), show (f3 : Int32).toInt.toNat = (fI h0 38).toNat from congrArg Int.toNat (‹fI h0 38 = (f3 : Int32).toInt›).symm]))), (((arI_c (d119 102 (by decide))).trans (arI_c (d109 102 (by decide)))).trans (w74.1.trans (by rw [show arI h63 102 = arI h0 102 from ((arI_c (d61 102 (by decide))).trans ((arI_c (d52 102 (by decide))).trans ((arI_c (d43 102 (by decide))).trans ((arI_c (d33 102 (by decide))).trans ((arI_c (d24 102 (by decide))).trans (arI_c (d15 102 (by decide)))))))), show (f3 : Int32).toInt.toNat = (fI h0 38).toNat from congrArg Int.toNat (‹fI h0 38 = (f3 : Int32).toInt›).symm]))), ((arI_c (d119 103 (by decide))).trans (w112.1.trans (by rw [show arI h73 103 = arI h0 103 from ((arI_c (d71 103 (by decide))).trans ((arI_c (d61 103 (by decide))).trans ((arI_c (d52 103 (by decide))).trans ((arI_c (d43 103 (by decide))).trans ((arI_c (d33 103 (by decide))).trans ((arI_c (d24 103 (by decide))).trans (arI_c (d15 103 (by decide))))))))), show (f3 : Int32).toInt.toNat = (fI h0 38).toNat from congrArg Int.toNat (‹fI h0 38 = (f3 : Int32).toInt›).symm])))⟩, ⟨fun q => by exfalso; omega, fun _ => rfl⟩⟩)
    · have t128 := t106 c107
      clear t105 t106
      refine ur_ldI rfl rfl ?_
      refine ur_push rfl ?_
      refine ur_if2 rfl (fun c129 => ?_) (fun c129 => ?_)
      · have t130 := ne_to c129
        refine ur_push rfl ?_
        refine ur_astV (W := [103]) (m := 150) rfl hO73 ((d71 _ (by decide)).trans ((d61 _ (by decide)).trans ((d52 _ (by decide)).trans ((d43 _ (by decide)).trans ((d33 _ (by decide)).trans ((d24 _ (by decide)).trans ((d15 _ (by decide)).trans hc11))))))) (by decide) hn13 (by omega) (by show -1 ≤ ((-1) : Int32).toInt ∧ ((-1) : Int32).toInt ≤ 149; omega) (Or.inr (Or.inr (wid_fix (by decide) (by decide)))) (fun h133 hO133 hv133 d131 hc132 => ?_)
        have hu133 : un [96, 97, 98, 99, 100, 101, 102, 103, 7938] h73 h133 := hv133.mono (by decide)
        have w134 : wI h73 h133 103 ((arI h73 103).set (f3 : Int32).toInt.toNat (-1)) := ⟨by rw [arI_of hc132, arI_of ((d71 _ (by decide)).trans ((d61 _ (by decide)).trans ((d52 _ (by decide)).trans ((d43 _ (by decide)).trans ((d33 _ (by decide)).trans ((d24 _ (by decide)).trans ((d15 _ (by decide)).trans hc11)))))))], d131⟩
        refine ur_ldA rfl rfl ?_
        refine ur_dup rfl rfl ?_
        have hc135 := ((d131 _ (by decide)).trans ((d71 _ (by decide)).trans hc65))
        have t136 := fI_of hc135 p4
        refine ur_get rfl hc135 p4 ?_
        refine ur_push rfl ?_
        refine ur_binV rfl (fun x137 e138 => ?_)
        have z139 := any_r f3
        have t140 := ti_add e138 (by omega) (by omega)
        refine ur_putM (W := [7938]) rfl hO133 hc135 (by decide) rfl (ms_38 (hO133.msh hc135) (show 0 ≤ x137.toInt ∧ x137.toInt ≤ 150 by omega)) (Or.inr (by decide)) (fun h142 hO142 hv142 d141 hc143 => ?_)
        have hu142 : un [96, 97, 98, 99, 100, 101, 102, 103, 7938] h133 h142 := hv142.mono (by decide)
        have t144 := fI_of hc143 (gs_eq p4)
        refine ur_ldA rfl rfl ?_
        refine ur_get rfl hc143 (gs_eq p4) ?_
        refine ur_push rfl ?_
        refine ur_binV rfl (fun x145 e146 => ?_)
        have z147 := any_r x137
        have t148 := ti_sub e146 (by omega) (by omega)
        have hc149 := ((d141 _ (by decide)).trans ((d131 _ (by decide)).trans ((d71 _ (by decide)).trans ((d61 _ (by decide)).trans ((d52 _ (by decide)).trans ((d43 _ (by decide)).trans ((d33 _ (by decide)).trans ((d24 _ (by decide)).trans hc16))))))))
        exact ur_ret rfl rfl (hQ _ _ ⟨_, rfl, by omega⟩ hO142 (hu17.tr (hu26.tr (hu35.tr (hu45.tr (hu54.tr (hu63.tr (hu73.tr (hu133.tr hu142)))))))) (by omega) ⟨hX0.1.un hO0 hO142 (hu17.tr (hu26.tr (hu35.tr (hu45.tr (hu54.tr (hu63.tr (hu73.tr (hu133.tr hu142)))))))) (by decide) (by decide), hX0.2.1.un hO0 hO142 (hu17.tr (hu26.tr (hu35.tr (hu45.tr (hu54.tr (hu63.tr (hu73.tr (hu133.tr hu142)))))))) (by decide) (by decide), hX0.2.2.1.un hO0 hO142 (hu17.tr (hu26.tr (hu35.tr (hu45.tr (hu54.tr (hu63.tr (hu73.tr (hu133.tr hu142)))))))) (by decide) (by decide), WX.push (j := f3) (x := a1) (y := (-1)) hX0.2.2.2.1 hc7 hc149 hc11 ((d141 _ (by decide)).trans hc132) (by omega) (by omega) (by omega) (by omega), hX0.2.2.2.2.un hO0 (hu17.tr (hu26.tr (hu35.tr (hu45.tr (hu54.tr (hu63.tr (hu73.tr (hu133.tr hu142)))))))) (by decide)⟩ ⟨(-1), ⟨(((arI_c (d141 96 (by decide))).trans ((arI_c (d131 96 (by decide))).trans ((arI_c (d71 96 (by decide))).trans ((arI_c (d61 96 (by decide))).trans ((arI_c (d52 96 (by decide))).trans ((arI_c (d43 96 (by decide))).trans ((arI_c (d33 96 (by decide))).trans (arI_c (d24 96 (by decide)))))))))).trans (w18.1.trans (by rw [show arI h0 96 = arI h0 96 from rfl, show (f3 : Int32).toInt.toNat = (fI h0 38).toNat from congrArg Int.toNat (‹fI h0 38 = (f3 : Int32).toInt›).symm]))), (((arI_c (d141 97 (by decide))).trans ((arI_c (d131 97 (by decide))).trans ((arI_c (d71 97 (by decide))).trans ((arI_c (d61 97 (by decide))).trans ((arI_c (d52 97 (by decide))).trans ((arI_c (d43 97 (by decide))).trans (arI_c (d33 97 (by decide))))))))).trans (w27.1.trans (by rw [show arI h17 97 = arI h0 97 from (arI_c (d15 97 (by decide))), show (f3 : Int32).toInt.toNat = (fI h0 38).toNat from congrArg Int.toNat (‹fI h0 38 = (f3 : Int32).toInt›).symm]))), (((arI_c (d141 98 (by decide))).trans ((arI_c (d131 98 (by decide))).trans ((arI_c (d71 98 (by decide))).trans ((arI_c (d61 98 (by decide))).trans ((arI_c (d52 98 (by decide))).trans (arI_c (d43 98 (by decide)))))))).trans (w36.1.trans (by rw [show arI h26 98 = arI h0 98 from ((arI_c (d24 98 (by decide))).trans (arI_c (d15 98 (by decide)))), show (f3 : Int32).toInt.toNat = (fI h0 38).toNat from congrArg Int.toNat (‹fI h0 38 = (f3 : Int32).toInt›).symm]))), (((arI_c (d141 99 (by decide))).trans ((arI_c (d131 99 (by decide))).trans ((arI_c (d71 99 (by decide))).trans ((arI_c (d61 99 (by decide))).trans (arI_c (d52 99 (by decide))))))).trans (w46.1.trans (by rw [show arI h35 99 = arI h0 99 from ((arI_c (d33 99 (by decide))).trans ((arI_c (d24 99 (by decide))).trans (arI_c (d15 99 (by decide))))), show (f3 : Int32).toInt.toNat = (fI h0 38).toNat from congrArg Int.toNat (‹fI h0 38 = (f3 : Int32).toInt›).symm]))), (((arI_c (d141 100 (by decide))).trans ((arI_c (d131 100 (by decide))).trans ((arI_c (d71 100 (by decide))).trans (arI_c (d61 100 (by decide)))))).trans (w55.1.trans (by rw [show arI h45 100 = arI h0 100 from ((arI_c (d43 100 (by decide))).trans ((arI_c (d33 100 (by decide))).trans ((arI_c (d24 100 (by decide))).trans (arI_c (d15 100 (by decide)))))), show (f3 : Int32).toInt.toNat = (fI h0 38).toNat from congrArg Int.toNat (‹fI h0 38 = (f3 : Int32).toInt›).symm]))), (((arI_c (d141 101 (by decide))).trans ((arI_c (d131 101 (by decide))).trans (arI_c (d71 101 (by decide))))).trans (w64.1.trans (by rw [show arI h54 101 = arI h0 101 from ((arI_c (d52 101 (by decide))).trans ((arI_c (d43 101 (by decide))).trans ((arI_c (d33 101 (by decide))).trans ((arI_c (d24 101 (by decide))).trans (arI_c (d15 101 (by decide))))))), show (f3 : Int32).toInt.toNat = (fI h0 38).toNat from congrArg Int.toNat (‹fI h0 38 = (f3 : Int32).toInt›).symm]))), (((arI_c (d141 102 (by decide))).trans (arI_c (d131 102 (by decide)))).trans (w74.1.trans (by rw [show arI h63 102 = arI h0 102 from ((arI_c (d61 102 (by decide))).trans ((arI_c (d52 102 (by decide))).trans ((arI_c (d43 102 (by decide))).trans ((arI_c (d33 102 (by decide))).trans ((arI_c (d24 102 (by decide))).trans (arI_c (d15 102 (by decide)))))))), show (f3 : Int32).toInt.toNat = (fI h0 38).toNat from congrArg Int.toNat (‹fI h0 38 = (f3 : Int32).toInt›).symm]))), ((arI_c (d141 103 (by decide))).trans (w134.1.trans (by rw [show arI h73 103 = arI h0 103 from ((arI_c (d71 103 (by decide))).trans ((arI_c (d61 103 (by decide))).trans ((arI_c (d52 103 (by decide))).trans ((arI_c (d43 103 (by decide))).trans ((arI_c (d33 103 (by decide))).trans ((arI_c (d24 103 (by decide))).trans (arI_c (d15 103 (by decide))))))))), show (f3 : Int32).toInt.toNat = (fI h0 38).toNat from congrArg Int.toNat (‹fI h0 38 = (f3 : Int32).toInt›).symm])))⟩, ⟨fun _ => by decide, fun q => absurd (by omega) q⟩⟩)
      · have t150 := ne_no c129
        refine ur_ldI rfl rfl ?_
        refine ur_go rfl ?_
        refine ur_astV (W := [103]) (m := 150) rfl hO73 ((d71 _ (by decide)).trans ((d61 _ (by decide)).trans ((d52 _ (by decide)).trans ((d43 _ (by decide)).trans ((d33 _ (by decide)).trans ((d24 _ (by decide)).trans ((d15 _ (by decide)).trans hc11))))))) (by decide) hn13 (by omega) (by show -1 ≤ a8.toInt ∧ a8.toInt ≤ 149; omega) (Or.inr (Or.inr (wid_fix (by decide) (by decide)))) (fun h153 hO153 hv153 d151 hc152 => ?_)
        have hu153 : un [96, 97, 98, 99, 100, 101, 102, 103, 7938] h73 h153 := hv153.mono (by decide)
        have w154 : wI h73 h153 103 ((arI h73 103).set (f3 : Int32).toInt.toNat a8) := ⟨by rw [arI_of hc152, arI_of ((d71 _ (by decide)).trans ((d61 _ (by decide)).trans ((d52 _ (by decide)).trans ((d43 _ (by decide)).trans ((d33 _ (by decide)).trans ((d24 _ (by decide)).trans ((d15 _ (by decide)).trans hc11)))))))], d151⟩
        refine ur_ldA rfl rfl ?_
        refine ur_dup rfl rfl ?_
        have hc155 := ((d151 _ (by decide)).trans ((d71 _ (by decide)).trans hc65))
        have t156 := fI_of hc155 p4
        refine ur_get rfl hc155 p4 ?_
        refine ur_push rfl ?_
        refine ur_binV rfl (fun x157 e158 => ?_)
        have z159 := any_r f3
        have t160 := ti_add e158 (by omega) (by omega)
        refine ur_putM (W := [7938]) rfl hO153 hc155 (by decide) rfl (ms_38 (hO153.msh hc155) (show 0 ≤ x157.toInt ∧ x157.toInt ≤ 150 by omega)) (Or.inr (by decide)) (fun h162 hO162 hv162 d161 hc163 => ?_)
        have hu162 : un [96, 97, 98, 99, 100, 101, 102, 103, 7938] h153 h162 := hv162.mono (by decide)
        have t164 := fI_of hc163 (gs_eq p4)
        refine ur_ldA rfl rfl ?_
        refine ur_get rfl hc163 (gs_eq p4) ?_
        refine ur_push rfl ?_
        refine ur_binV rfl (fun x165 e166 => ?_)
        have z167 := any_r x157
        have t168 := ti_sub e166 (by omega) (by omega)
        have hc169 := ((d161 _ (by decide)).trans ((d151 _ (by decide)).trans ((d71 _ (by decide)).trans ((d61 _ (by decide)).trans ((d52 _ (by decide)).trans ((d43 _ (by decide)).trans ((d33 _ (by decide)).trans ((d24 _ (by decide)).trans hc16))))))))
        exact ur_ret rfl rfl (hQ _ _ ⟨_, rfl, by omega⟩ hO162 (hu17.tr (hu26.tr (hu35.tr (hu45.tr (hu54.tr (hu63.tr (hu73.tr (hu153.tr hu162)))))))) (by omega) ⟨hX0.1.un hO0 hO162 (hu17.tr (hu26.tr (hu35.tr (hu45.tr (hu54.tr (hu63.tr (hu73.tr (hu153.tr hu162)))))))) (by decide) (by decide), hX0.2.1.un hO0 hO162 (hu17.tr (hu26.tr (hu35.tr (hu45.tr (hu54.tr (hu63.tr (hu73.tr (hu153.tr hu162)))))))) (by decide) (by decide), hX0.2.2.1.un hO0 hO162 (hu17.tr (hu26.tr (hu35.tr (hu45.tr (hu54.tr (hu63.tr (hu73.tr (hu153.tr hu162)))))))) (by decide) (by decide), WX.push (j := f3) (x := a1) (y := a8) hX0.2.2.2.1 hc7 hc169 hc11 ((d161 _ (by decide)).trans hc152) (by omega) (by omega) (by omega) (by omega), hX0.2.2.2.2.un hO0 (hu17.tr (hu26.tr (hu35.tr (hu45.tr (hu54.tr (hu63.tr (hu73.tr (hu153.tr hu162)))))))) (by decide)⟩ ⟨a8, ⟨(((arI_c (d161 96 (by decide))).trans ((arI_c (d151 96 (by decide))).trans ((arI_c (d71 96 (by decide))).trans ((arI_c (d61 96 (by decide))).trans ((arI_c (d52 96 (by decide))).trans ((arI_c (d43 96 (by decide))).trans ((arI_c (d33 96 (by decide))).trans (arI_c (d24 96 (by decide)))))))))).trans (w18.1.trans (by rw [show arI h0 96 = arI h0 96 from rfl, show (f3 : Int32).toInt.toNat = (fI h0 38).toNat from congrArg Int.toNat (‹fI h0 38 = (f3 : Int32).toInt›).symm]))), (((arI_c (d161 97 (by decide))).trans ((arI_c (d151 97 (by decide))).trans ((arI_c (d71 97 (by decide))).trans ((arI_c (d61 97 (by decide))).trans ((arI_c (d52 97 (by decide))).trans ((arI_c (d43 97 (by decide))).trans (arI_c (d33 97 (by decide))))))))).trans (w27.1.trans (by rw [show arI h17 97 = arI h0 97 from (arI_c (d15 97 (by decide))), show (f3 : Int32).toInt.toNat = (fI h0 38).toNat from congrArg Int.toNat (‹fI h0 38 = (f3 : Int32).toInt›).symm]))), (((arI_c (d161 98 (by decide))).trans ((arI_c (d151 98 (by decide))).trans ((arI_c (d71 98 (by decide))).trans ((arI_c (d61 98 (by decide))).trans ((arI_c (d52 98 (by decide))).trans (arI_c (d43 98 (by decide)))))))).trans (w36.1.trans (by rw [show arI h26 98 = arI h0 98 from ((arI_c (d24 98 (by decide))).trans (arI_c (d15 98 (by decide)))), show (f3 : Int32).toInt.toNat = (fI h0 38).toNat from congrArg Int.toNat (‹fI h0 38 = (f3 : Int32).toInt›).symm]))), (((arI_c (d161 99 (by decide))).trans ((arI_c (d151 99 (by decide))).trans ((arI_c (d71 99 (by decide))).trans ((arI_c (d61 99 (by decide))).trans (arI_c (d52 99 (by decide))))))).trans (w46.1.trans (by rw [show arI h35 99 = arI h0 99 from ((arI_c (d33 99 (by decide))).trans ((arI_c (d24 99 (by decide))).trans (arI_c (d15 99 (by decide))))), show (f3 : Int32).toInt.toNat = (fI h0 38).toNat from congrArg Int.toNat (‹fI h0 38 = (f3 : Int32).toInt›).symm]))), (((arI_c (d161 100 (by decide))).trans ((arI_c (d151 100 (by decide))).trans ((arI_c (d71 100 (by decide))).trans (arI_c (d61 100 (by decide)))))).trans (w55.1.trans (by rw [show arI h45 100 = arI h0 100 from ((arI_c (d43 100 (by decide))).trans ((arI_c (d33 100 (by decide))).trans ((arI_c (d24 100 (by decide))).trans (arI_c (d15 100 (by decide)))))), show (f3 : Int32).toInt.toNat = (fI h0 38).toNat from congrArg Int.toNat (‹fI h0 38 = (f3 : Int32).toInt›).symm]))), (((arI_c (d161 101 (by decide))).trans ((arI_c (d151 101 (by decide))).trans (arI_c (d71 101 (by decide))))).trans (w64.1.trans (by rw [show arI h54 101 = arI h0 101 from ((arI_c (d52 101 (by decide))).trans ((arI_c (d43 101 (by decide))).trans ((arI_c (d33 101 (by decide))).trans ((arI_c (d24 101 (by decide))).trans (arI_c (d15 101 (by decide))))))), show (f3 : Int32).toInt.toNat = (fI h0 38).toNat from congrArg Int.toNat (‹fI h0 38 = (f3 : Int32).toInt›).symm]))), (((arI_c (d161 102 (by decide))).trans (arI_c (d151 102 (by decide)))).trans (w74.1.trans (by rw [show arI h63 102 = arI h0 102 from ((arI_c (d61 102 (by decide))).trans ((arI_c (d52 102 (by decide))).trans ((arI_c (d43 102 (by decide))).trans ((arI_c (d33 102 (by decide))).trans ((arI_c (d24 102 (by decide))).trans (arI_c (d15 102 (by decide)))))))), show (f3 : Int32).toInt.toNat = (fI h0 38).toNat from congrArg Int.toNat (‹fI h0 38 = (f3 : Int32).toInt›).symm]))), ((arI_c (d161 103 (by decide))).trans (w154.1.trans (by rw [show arI h73 103 = arI h0 103 from ((arI_c (d71 103 (by decide))).trans ((arI_c (d61 103 (by decide))).trans ((arI_c (d52 103 (by decide))).trans ((arI_c (d43 103 (by decide))).trans ((arI_c (d33 103 (by decide))).trans ((arI_c (d24 103 (by decide))).trans (arI_c (d15 103 (by decide))))))))), show (f3 : Int32).toInt.toNat = (fI h0 38).toNat from congrArg Int.toNat (‹fI h0 38 = (f3 : Int32).toInt›).symm])))⟩, ⟨fun q => by exfalso; omega, fun _ => rfl⟩⟩)

set_option maxRecDepth 20000 in
set_option maxHeartbeats 4000000 in
theorem se_X12_word {d kc ks : Nat} {h0 : aH} {Q : Option aV → aH → Prop} (hO0 : OK h0) (hX0 : SX h0) (a1 : Int32) (a2 : Int32) (a3 : Int32) (hQ : ∀ r h', (∃ x : Int32, r = some (.inl x) ∧ (¬ ((0 ≤ a1.toInt ∧ a1.toInt / 10000 ≤ 8 ∧ a1.toInt / 100 % 100 ≤ 7 ∧ 0 ≤ a2.toInt ∧ a2.toInt ≤ 400) ∧ (a1.toInt % 100 = 99 ∨ (a1.toInt % 100 ≤ 19 ∧ gI h0 91 (a1.toInt % 100) ≠ 0)) ∧ ((a1.toInt / 100 % 100 = 1 ∨ a1.toInt / 100 % 100 = 6 → 0 ≤ a3.toInt ∧ a3.toInt ≤ 23) ∧ (a1.toInt / 100 % 100 = 2 ∨ a1.toInt / 100 % 100 = 7 → 0 ≤ a3.toInt ∧ a3.toInt ≤ 1) ∧ (a1.toInt / 100 % 100 = 3 → 0 ≤ a3.toInt ∧ a3.toInt < fI h0 38))) ∧ x.toInt = -1 ∧ fI h' 38 = fI h0 38 ∨ ((0 ≤ a1.toInt ∧ a1.toInt / 10000 ≤ 8 ∧ a1.toInt / 100 % 100 ≤ 7 ∧ 0 ≤ a2.toInt ∧ a2.toInt ≤ 400) ∧ (a1.toInt % 100 = 99 ∨ (a1.toInt % 100 ≤ 19 ∧ gI h0 91 (a1.toInt % 100) ≠ 0)) ∧ ((a1.toInt / 100 % 100 = 1 ∨ a1.toInt / 100 % 100 = 6 → 0 ≤ a3.toInt ∧ a3.toInt ≤ 23) ∧ (a1.toInt / 100 % 100 = 2 ∨ a1.toInt / 100 % 100 = 7 → 0 ≤ a3.toInt ∧ a3.toInt ≤ 1) ∧ (a1.toInt / 100 % 100 = 3 → 0 ≤ a3.toInt ∧ a3.toInt < fI h0 38))) ∧ 150 ≤ fI h0 38 ∧ x.toInt = -3 ∧ fI h' 38 = fI h0 38 ∨ ((0 ≤ a1.toInt ∧ a1.toInt / 10000 ≤ 8 ∧ a1.toInt / 100 % 100 ≤ 7 ∧ 0 ≤ a2.toInt ∧ a2.toInt ≤ 400) ∧ (a1.toInt % 100 = 99 ∨ (a1.toInt % 100 ≤ 19 ∧ gI h0 91 (a1.toInt % 100) ≠ 0)) ∧ ((a1.toInt / 100 % 100 = 1 ∨ a1.toInt / 100 % 100 = 6 → 0 ≤ a3.toInt ∧ a3.toInt ≤ 23) ∧ (a1.toInt / 100 % 100 = 2 ∨ a1.toInt / 100 % 100 = 7 → 0 ≤ a3.toInt ∧ a3.toInt ≤ 1) ∧ (a1.toInt / 100 % 100 = 3 → 0 ≤ a3.toInt ∧ a3.toInt < fI h0 38))) ∧ fI h0 38 < 150 ∧ x.toInt = fI h0 38 ∧ fI h' 38 = fI h0 38 + 1)) → OK h' → un [96, 97, 98, 99, 100, 101, 102, 103, 7938] h0 h' → (fI h' 38 ≤ fI h0 38 + 1) → (SX h') → (KWm h0 h') → (imG (fI h' 38 = fI h0 38 + 1) (∃ re mo, NWm h' (fI h0 38) (a1.toInt / 100 % 100) (a1.toInt / 10000) re a2.toInt (fI h0 47) (fI h0 48) (fI h0 49) mo ∧ ((a1.toInt % 100 = 99 ∧ re = -1) ∨ (a1.toInt % 100 ≠ 99 ∧ re = a1.toInt % 100)) ∧ (((a1.toInt / 100 % 100 = 0 ∨ a1.toInt / 100 % 100 = 4 ∨ a1.toInt / 100 % 100 = 5) ∧ mo = -1) ∨ (¬ (a1.toInt / 100 % 100 = 0 ∨ a1.toInt / 100 % 100 = 4 ∨ a1.toInt / 100 % 100 = 5) ∧ mo = a3.toInt)))) → Q r h') : uCall Mt (d + 3) 239 [(.inr (.inr (some 69))), (.inl a1), (.inl a2), (.inl a3)] h0 kc ks Q := by
  have l_m3 : ((-3) : Int32).toInt = -3 := by decide
  have l_m1 : ((-1) : Int32).toInt = -1 := by decide
  have l_0 : ((0) : Int32).toInt = 0 := by decide
  have l_1 : ((1) : Int32).toInt = 1 := by decide
  have l_3 : ((3) : Int32).toInt = 3 := by decide
  have l_7 : ((7) : Int32).toInt = 7 := by decide
  have l_8 : ((8) : Int32).toInt = 8 := by decide
  have l_20 : ((20) : Int32).toInt = 20 := by decide
  have l_23 : ((23) : Int32).toInt = 23 := by decide
  have l_99 : ((99) : Int32).toInt = 99 := by decide
  have l_100 : ((100) : Int32).toInt = 100 := by decide
  have l_150 : ((150) : Int32).toInt = 150 := by decide
  have l_400 : ((400) : Int32).toInt = 400 := by decide
  have l_10000 : ((10000) : Int32).toInt = 10000 := by decide
  refine uc_ink [some (.inr (.inr (some 69))), some (.inl a1), some (.inl a2), some (.inl a3), none, none, none] mt_239 (Nat.le_of_ble_eq_true rfl) rfl ?_
  obtain ⟨fs1, hc2⟩ := hO0.mod
  obtain ⟨f3, p4, t5⟩ := mf_38 hO0 hc2
  have t6 := fI_of hc2 p4
  obtain ⟨f7, p8⟩ := mf_47 hO0 hc2
  have t9 := fI_of hc2 p8
  obtain ⟨f10, p11⟩ := mf_48 hO0 hc2
  have t12 := fI_of hc2 p11
  obtain ⟨f13, p14⟩ := mf_49 hO0 hc2
  have t15 := fI_of hc2 p14
  refine ur_ldI rfl rfl ?_
  refine ur_push rfl ?_
  refine ur_divV rfl (by decide) (fun x16 e17 => ?_)
  have z18 := any_r a1
  have t19 : 0 ≤ a1.toInt → x16.toInt = a1.toInt / 10000 := fun q => ti_div e17 l_10000 (by decide) q
  refine ur_svIk [some (.inr (.inr (some 69))), some (.inl a1), some (.inl a2), some (.inl a3), some (.inl x16), none, none] rfl rfl ?_
  refine ur_ldI rfl rfl ?_
  refine ur_push rfl ?_
  refine ur_divV rfl (by decide) (fun x20 e21 => ?_)
  have t22 : 0 ≤ a1.toInt → x20.toInt = a1.toInt / 100 := fun q => ti_div e21 l_100 (by decide) q
  refine ur_push rfl ?_
  refine ur_divV rfl (by decide) (fun x23 e24 => ?_)
  have z25 := any_r x20
  have t26 : 0 ≤ x20.toInt → x23.toInt = x20.toInt % 100 := fun q => ti_rem e24 l_100 (by decide) q
  refine ur_svIk [some (.inr (.inr (some 69))), some (.inl a1), some (.inl a2), some (.inl a3), some (.inl x16), some (.inl x23), none] rfl rfl ?_
  refine ur_ldI rfl rfl ?_
  refine ur_push rfl ?_
  refine ur_divV rfl (by decide) (fun x27 e28 => ?_)
  have t29 : 0 ≤ a1.toInt → x27.toInt = a1.toInt % 100 := fun q => ti_rem e28 l_100 (by decide) q
  refine ur_svIk [some (.inr (.inr (some 69))), some (.inl a1), some (.inl a2), some (.inl a3), some (.inl x16), some (.inl x23), some (.inl x27)] rfl rfl ?_
  refine ur_ldI rfl rfl ?_
  have t30 : 0 ≤ a1.toInt → gI h0 91 (a1.toInt % 100) = gI h0 91 x27.toInt := fun q => by rw [show a1.toInt % 100 = x27.toInt by omega]
  refine ur_if1 rfl (fun c31 => ?_) (fun c31 => ?_)
  · have t32 := lt_to c31
    refine ur_push rfl ?_
    exact ur_ret rfl rfl (hQ _ _ ⟨_, rfl, Or.inl ⟨fun q => by omega, by omega, by omega⟩⟩ hO0 un.rf (by omega) hX0 KWm.rf (fun q => by exfalso; omega))
  · have t33 := lt_no c31
    replace t19 := t19 (by omega)
    replace t22 := t22 (by omega)
    replace t26 := t26 (by omega)
    replace t29 := t29 (by omega)
    replace t30 := t30 (by omega)
    have h34 : x16.toInt = a1.toInt / 10000 := by omega
    have h35 : x23.toInt = a1.toInt / 100 % 100 := by omega
    have h36 : x27.toInt = a1.toInt % 100 := by omega
    refine ur_ldI rfl rfl ?_
    refine ur_callv rfl rfl (Nat.le_of_ble_eq_true rfl) (Nat.le_of_ble_eq_true rfl) rfl (sq_isPpl _ _) ?_
    refine ur_eqB rfl (fun c39 => ?_) (fun c39 => ?_)
    · have t40 := wi_noL c39 l_0 l_8
      refine ur_push rfl ?_
      exact ur_ret rfl rfl (hQ _ _ ⟨_, rfl, Or.inl ⟨fun q => by omega, by omega, by omega⟩⟩ hO0 un.rf (by omega) hX0 KWm.rf (fun q => by exfalso; omega))
    · have t41 := wi_toL c39 l_0 l_8
      refine ur_ldI rfl rfl ?_
      refine ur_push rfl ?_
      refine ur_push rfl ?_
      refine ur_callv rfl rfl (Nat.le_of_ble_eq_true rfl) (Nat.le_of_ble_eq_true rfl) rfl (sp_in _ _ _ _ _) ?_
      refine ur_eqB rfl (fun c44 => ?_) (fun c44 => ?_)
      · have t45 := wi_noL c44 l_0 l_7
        refine ur_push rfl ?_
        exact ur_ret rfl rfl (hQ _ _ ⟨_, rfl, Or.inl ⟨fun q => by omega, by omega, by omega⟩⟩ hO0 un.rf (by omega) hX0 KWm.rf (fun q => by exfalso; omega))
      · have t46 := wi_toL c44 l_0 l_7
        refine ur_ldI rfl rfl ?_
        refine ur_push rfl ?_
        refine ur_if2 rfl (fun c47 => ?_) (fun c47 => ?_)
        · have t48 := eq_to c47
          refine ur_ldI rfl rfl ?_
          refine ur_push rfl ?_
          refine ur_push rfl ?_
          refine ur_callv rfl rfl (Nat.le_of_ble_eq_true rfl) (Nat.le_of_ble_eq_true rfl) rfl (sp_in _ _ _ _ _) ?_
          refine ur_neB rfl (fun c51 => ?_) (fun c51 => ?_)
          · have t52 := wi_toL c51 l_0 l_400
            refine ur_ldI rfl rfl ?_
            refine ur_inl rfl rfl (Nat.le_of_ble_eq_true rfl) (Nat.le_of_ble_eq_true rfl) (sd_X12_isLodged hO0 _ (fun w53 hr54 => ?_))
            obtain ⟨b55, rfl, t56, t57⟩ := hr54
            show uRun _ (uCall Mt _) _ 87 (_, [(.inl (bi b55))], _, _, _)
            refine ur_eqB rfl (fun c58 => ?_) (fun c58 => ?_)
            · have t59 := t57 c58
              clear t56 t57
              refine ur_ldI rfl rfl ?_
              refine ur_inl rfl rfl (Nat.le_of_ble_eq_true rfl) (Nat.le_of_ble_eq_true rfl) (sd_X12_isSided hO0 _ (fun w60 hr61 => ?_))
              obtain ⟨b62, rfl, t63, t64⟩ := hr61
              show uRun _ (uCall Mt _) _ 105 (_, [(.inl (bi b62))], _, _, _)
              refine ur_eqB rfl (fun c65 => ?_) (fun c65 => ?_)
              · have t66 := t64 c65
                clear t63 t64
                refine ur_ldI rfl rfl ?_
                refine ur_push rfl ?_
                refine ur_if2 rfl (fun c67 => ?_) (fun c67 => ?_)
                · have t68 := ne_to c67
                  refine ur_ldA rfl rfl ?_
                  refine ur_get rfl hc2 p4 ?_
                  refine ur_push rfl ?_
                  refine ur_if2 rfl (fun c69 => ?_) (fun c69 => ?_)
                  · have t70 := ne_to c69
                    refine ur_ldA rfl rfl ?_
                    refine ur_ldI rfl rfl ?_
                    refine ur_ldI rfl rfl ?_
                    refine ur_ldA rfl rfl ?_
                    refine ur_get rfl hc2 p8 ?_
                    refine ur_ldA rfl rfl ?_
                    refine ur_get rfl hc2 p11 ?_
                    refine ur_ldA rfl rfl ?_
                    refine ur_get rfl hc2 p14 ?_
                    refine ur_ldI rfl rfl ?_
                    refine ur_push rfl ?_
                    refine ur_if2 rfl (fun c71 => ?_) (fun c71 => ?_)
                    · have t72 := ne_to c71
                      exfalso
                      omega
                    · have t73 := ne_no c71
                      refine ur_push rfl ?_
                      refine ur_go rfl ?_
                      refine ur_ldI rfl rfl ?_
                      refine ur_ldI rfl rfl ?_
                      refine ur_inl rfl (rcv_of hc2) (Nat.le_of_ble_eq_true rfl) (Nat.le_of_ble_eq_true rfl) (se_X12_newWord hO0 hX0 _ (by show 0 ≤ x23.toInt ∧ x23.toInt ≤ 7; omega) _ (by show 0 ≤ x16.toInt ∧ x16.toInt ≤ 8; omega) _ _ _ _ (by show -1 ≤ ((-1) : Int32).toInt ∧ ((-1) : Int32).toInt ≤ 19; omega) _ _ (by omega) (by omega) (by omega) (by omega) (fun w74 h79 hr75 hO79 hv79 hp76 hp77 hp78 => ?_))
                      have hu79 := hv79
                      obtain ⟨x80, rfl, t81⟩ := hr75
                      show uRun _ (uCall Mt _) _ 181 (_, [(.inl x80)], _, _, _)
                      obtain ⟨fs82, hc83⟩ := hO79.mod
                      obtain ⟨f84, p85, t86⟩ := mf_38 hO79 hc83
                      have t87 := fI_of hc83 p85
                      obtain ⟨f88, p89⟩ := mf_47 hO79 hc83
                      have t90 := fI_of hc83 p89
                      obtain ⟨f91, p92⟩ := mf_48 hO79 hc83
                      have t93 := fI_of hc83 p92
                      obtain ⟨f94, p95⟩ := mf_49 hO79 hc83
                      have t96 := fI_of hc83 p95
                      obtain ⟨m97, e101, w99, w100⟩ := hp78
                      have k98 := e101.k hO0 (by omega)
                      rw [h35] at w99 w100
                      have w102 := k98.2.c rfl h35.symm h34.symm rfl rfl ‹fI h0 47 = f7.toInt› ‹fI h0 48 = f10.toInt› ‹fI h0 49 = f13.toInt› rfl
                      exact ur_ret rfl rfl (hQ _ _ ⟨_, rfl, Or.inr (Or.inr ⟨⟨⟨by omega, by omega, by omega, by omega, by omega⟩, by omega, fun q => by omega, fun q => by omega, fun q => by omega⟩, by omega, by omega, by omega⟩)⟩ hO79 hu79 (by omega) hp77 k98.1 (fun _ => ⟨_, _, w102, Or.inl ⟨by omega, by decide⟩, dzG w99 w100⟩))
                  · have t103 := ne_no c69
                    refine ur_push rfl ?_
                    exact ur_ret rfl rfl (hQ _ _ ⟨_, rfl, Or.inr (Or.inl ⟨⟨⟨by omega, by omega, by omega, by omega, by omega⟩, by omega, fun q => by omega, fun q => by omega, fun q => by omega⟩, by omega, by omega, by omega⟩)⟩ hO0 un.rf (by omega) hX0 KWm.rf (fun q => by exfalso; omega))
                · have t104 := ne_no c67
                  refine ur_ldA rfl rfl ?_
                  refine ur_ldI rfl rfl ?_
                  refine ur_inl rfl (rcv_of hc2) (Nat.le_of_ble_eq_true rfl) (Nat.le_of_ble_eq_true rfl) (sd_X12_isWord hO0 _ (fun w105 hr106 => ?_))
                  obtain ⟨b107, rfl, t108, t109⟩ := hr106
                  show uRun _ (uCall Mt _) _ 128 (_, [(.inl (bi b107))], _, _, _)
                  refine ur_neB rfl (fun c110 => ?_) (fun c110 => ?_)
                  · have t111 := t108 c110
                    clear t108 t109
                    refine ur_ldA rfl rfl ?_
                    refine ur_get rfl hc2 p4 ?_
                    refine ur_push rfl ?_
                    refine ur_if2 rfl (fun c112 => ?_) (fun c112 => ?_)
                    · have t113 := ne_to c112
                      refine ur_ldA rfl rfl ?_
                      refine ur_ldI rfl rfl ?_
                      refine ur_ldI rfl rfl ?_
                      refine ur_ldA rfl rfl ?_
                      refine ur_get rfl hc2 p8 ?_
                      refine ur_ldA rfl rfl ?_
                      refine ur_get rfl hc2 p11 ?_
                      refine ur_ldA rfl rfl ?_
                      refine ur_get rfl hc2 p14 ?_
                      refine ur_ldI rfl rfl ?_
                      refine ur_push rfl ?_
                      refine ur_if2 rfl (fun c114 => ?_) (fun c114 => ?_)
                      · have t115 := ne_to c114
                        exfalso
                        omega
                      · have t116 := ne_no c114
                        refine ur_push rfl ?_
                        refine ur_go rfl ?_
                        refine ur_ldI rfl rfl ?_
                        refine ur_ldI rfl rfl ?_
                        refine ur_inl rfl (rcv_of hc2) (Nat.le_of_ble_eq_true rfl) (Nat.le_of_ble_eq_true rfl) (se_X12_newWord hO0 hX0 _ (by show 0 ≤ x23.toInt ∧ x23.toInt ≤ 7; omega) _ (by show 0 ≤ x16.toInt ∧ x16.toInt ≤ 8; omega) _ _ _ _ (by show -1 ≤ ((-1) : Int32).toInt ∧ ((-1) : Int32).toInt ≤ 19; omega) _ _ (by omega) (by omega) (by omega) (by omega) (fun w117 h122 hr118 hO122 hv122 hp119 hp120 hp121 => ?_))
                        have hu122 := hv122
                        obtain ⟨x123, rfl, t124⟩ := hr118
                        show uRun _ (uCall Mt _) _ 181 (_, [(.inl x123)], _, _, _)
                        obtain ⟨fs125, hc126⟩ := hO122.mod
                        obtain ⟨f127, p128, t129⟩ := mf_38 hO122 hc126
                        have t130 := fI_of hc126 p128
                        obtain ⟨f131, p132⟩ := mf_47 hO122 hc126
                        have t133 := fI_of hc126 p132
                        obtain ⟨f134, p135⟩ := mf_48 hO122 hc126
                        have t136 := fI_of hc126 p135
                        obtain ⟨f137, p138⟩ := mf_49 hO122 hc126
                        have t139 := fI_of hc126 p138
                        obtain ⟨m140, e144, w142, w143⟩ := hp121
                        have k141 := e144.k hO0 (by omega)
                        rw [h35] at w142 w143
                        have w145 := k141.2.c rfl h35.symm h34.symm rfl rfl ‹fI h0 47 = f7.toInt› ‹fI h0 48 = f10.toInt› ‹fI h0 49 = f13.toInt› rfl
                        exact ur_ret rfl rfl (hQ _ _ ⟨_, rfl, Or.inr (Or.inr ⟨⟨⟨by omega, by omega, by omega, by omega, by omega⟩, by omega, fun q => by omega, fun q => by omega, fun q => by omega⟩, by omega, by omega, by omega⟩)⟩ hO122 hu122 (by omega) hp120 k141.1 (fun _ => ⟨_, _, w145, Or.inl ⟨by omega, by decide⟩, dzG w142 w143⟩))
                    · have t146 := ne_no c112
                      refine ur_push rfl ?_
                      exact ur_ret rfl rfl (hQ _ _ ⟨_, rfl, Or.inr (Or.inl ⟨⟨⟨by omega, by omega, by omega, by omega, by omega⟩, by omega, fun q => by omega, fun q => by omega, fun q => by omega⟩, by omega, by omega, by omega⟩)⟩ hO0 un.rf (by omega) hX0 KWm.rf (fun q => by exfalso; omega))
                  · have t147 := t109 c110
                    clear t108 t109
                    refine ur_push rfl ?_
                    exact ur_ret rfl rfl (hQ _ _ ⟨_, rfl, Or.inl ⟨fun q => by omega, by omega, by omega⟩⟩ hO0 un.rf (by omega) hX0 KWm.rf (fun q => by exfalso; omega))
              · have t148 := t63 c65
                clear t63 t64
                refine ur_ldI rfl rfl ?_
                refine ur_push rfl ?_
                refine ur_push rfl ?_
                refine ur_callv rfl rfl (Nat.le_of_ble_eq_true rfl) (Nat.le_of_ble_eq_true rfl) rfl (sp_in _ _ _ _ _) ?_
                refine ur_eqB rfl (fun c151 => ?_) (fun c151 => ?_)
                · have t152 := wi_noL c151 l_0 l_1
                  refine ur_push rfl ?_
                  exact ur_ret rfl rfl (hQ _ _ ⟨_, rfl, Or.inl ⟨fun q => by omega, by omega, by omega⟩⟩ hO0 un.rf (by omega) hX0 KWm.rf (fun q => by exfalso; omega))
                · have t153 := wi_toL c151 l_0 l_1
                  refine ur_ldI rfl rfl ?_
                  refine ur_push rfl ?_
                  refine ur_if2 rfl (fun c154 => ?_) (fun c154 => ?_)
                  · have t155 := ne_to c154
                    refine ur_ldA rfl rfl ?_
                    refine ur_get rfl hc2 p4 ?_
                    refine ur_push rfl ?_
                    refine ur_if2 rfl (fun c156 => ?_) (fun c156 => ?_)
                    · have t157 := ne_to c156
                      refine ur_ldA rfl rfl ?_
                      refine ur_ldI rfl rfl ?_
                      refine ur_ldI rfl rfl ?_
                      refine ur_ldA rfl rfl ?_
                      refine ur_get rfl hc2 p8 ?_
                      refine ur_ldA rfl rfl ?_
                      refine ur_get rfl hc2 p11 ?_
                      refine ur_ldA rfl rfl ?_
                      refine ur_get rfl hc2 p14 ?_
                      refine ur_ldI rfl rfl ?_
                      refine ur_push rfl ?_
                      refine ur_if2 rfl (fun c158 => ?_) (fun c158 => ?_)
                      · have t159 := ne_to c158
                        exfalso
                        omega
                      · have t160 := ne_no c158
                        refine ur_push rfl ?_
                        refine ur_go rfl ?_
                        refine ur_ldI rfl rfl ?_
                        refine ur_ldI rfl rfl ?_
                        refine ur_inl rfl (rcv_of hc2) (Nat.le_of_ble_eq_true rfl) (Nat.le_of_ble_eq_true rfl) (se_X12_newWord hO0 hX0 _ (by show 0 ≤ x23.toInt ∧ x23.toInt ≤ 7; omega) _ (by show 0 ≤ x16.toInt ∧ x16.toInt ≤ 8; omega) _ _ _ _ (by show -1 ≤ ((-1) : Int32).toInt ∧ ((-1) : Int32).toInt ≤ 19; omega) _ _ (by omega) (by omega) (by omega) (by omega) (fun w161 h166 hr162 hO166 hv166 hp163 hp164 hp165 => ?_))
                        have hu166 := hv166
                        obtain ⟨x167, rfl, t168⟩ := hr162
                        show uRun _ (uCall Mt _) _ 181 (_, [(.inl x167)], _, _, _)
                        obtain ⟨fs169, hc170⟩ := hO166.mod
                        obtain ⟨f171, p172, t173⟩ := mf_38 hO166 hc170
                        have t174 := fI_of hc170 p172
                        obtain ⟨f175, p176⟩ := mf_47 hO166 hc170
                        have t177 := fI_of hc170 p176
                        obtain ⟨f178, p179⟩ := mf_48 hO166 hc170
                        have t180 := fI_of hc170 p179
                        obtain ⟨f181, p182⟩ := mf_49 hO166 hc170
                        have t183 := fI_of hc170 p182
                        obtain ⟨m184, e188, w186, w187⟩ := hp165
                        have k185 := e188.k hO0 (by omega)
                        rw [h35] at w186 w187
                        have w189 := k185.2.c rfl h35.symm h34.symm rfl rfl ‹fI h0 47 = f7.toInt› ‹fI h0 48 = f10.toInt› ‹fI h0 49 = f13.toInt› rfl
                        exact ur_ret rfl rfl (hQ _ _ ⟨_, rfl, Or.inr (Or.inr ⟨⟨⟨by omega, by omega, by omega, by omega, by omega⟩, by omega, fun q => by omega, fun q => by omega, fun q => by omega⟩, by omega, by omega, by omega⟩)⟩ hO166 hu166 (by omega) hp164 k185.1 (fun _ => ⟨_, _, w189, Or.inl ⟨by omega, by decide⟩, dzG w186 w187⟩))
                    · have t190 := ne_no c156
                      refine ur_push rfl ?_
                      exact ur_ret rfl rfl (hQ _ _ ⟨_, rfl, Or.inr (Or.inl ⟨⟨⟨by omega, by omega, by omega, by omega, by omega⟩, by omega, fun q => by omega, fun q => by omega, fun q => by omega⟩, by omega, by omega, by omega⟩)⟩ hO0 un.rf (by omega) hX0 KWm.rf (fun q => by exfalso; omega))
                  · have t191 := ne_no c154
                    refine ur_ldA rfl rfl ?_
                    refine ur_ldI rfl rfl ?_
                    refine ur_inl rfl (rcv_of hc2) (Nat.le_of_ble_eq_true rfl) (Nat.le_of_ble_eq_true rfl) (sd_X12_isWord hO0 _ (fun w192 hr193 => ?_))
                    obtain ⟨b194, rfl, t195, t196⟩ := hr193
                    show uRun _ (uCall Mt _) _ 128 (_, [(.inl (bi b194))], _, _, _)
                    refine ur_neB rfl (fun c197 => ?_) (fun c197 => ?_)
                    · have t198 := t195 c197
                      clear t195 t196
                      refine ur_ldA rfl rfl ?_
                      refine ur_get rfl hc2 p4 ?_
                      refine ur_push rfl ?_
                      refine ur_if2 rfl (fun c199 => ?_) (fun c199 => ?_)
                      · have t200 := ne_to c199
                        refine ur_ldA rfl rfl ?_
                        refine ur_ldI rfl rfl ?_
                        refine ur_ldI rfl rfl ?_
                        refine ur_ldA rfl rfl ?_
                        refine ur_get rfl hc2 p8 ?_
                        refine ur_ldA rfl rfl ?_
                        refine ur_get rfl hc2 p11 ?_
                        refine ur_ldA rfl rfl ?_
                        refine ur_get rfl hc2 p14 ?_
                        refine ur_ldI rfl rfl ?_
                        refine ur_push rfl ?_
                        refine ur_if2 rfl (fun c201 => ?_) (fun c201 => ?_)
                        · have t202 := ne_to c201
                          exfalso
                          omega
                        · have t203 := ne_no c201
                          refine ur_push rfl ?_
                          refine ur_go rfl ?_
                          refine ur_ldI rfl rfl ?_
                          refine ur_ldI rfl rfl ?_
                          refine ur_inl rfl (rcv_of hc2) (Nat.le_of_ble_eq_true rfl) (Nat.le_of_ble_eq_true rfl) (se_X12_newWord hO0 hX0 _ (by show 0 ≤ x23.toInt ∧ x23.toInt ≤ 7; omega) _ (by show 0 ≤ x16.toInt ∧ x16.toInt ≤ 8; omega) _ _ _ _ (by show -1 ≤ ((-1) : Int32).toInt ∧ ((-1) : Int32).toInt ≤ 19; omega) _ _ (by omega) (by omega) (by omega) (by omega) (fun w204 h209 hr205 hO209 hv209 hp206 hp207 hp208 => ?_))
                          have hu209 := hv209
                          obtain ⟨x210, rfl, t211⟩ := hr205
                          show uRun _ (uCall Mt _) _ 181 (_, [(.inl x210)], _, _, _)
                          obtain ⟨fs212, hc213⟩ := hO209.mod
                          obtain ⟨f214, p215, t216⟩ := mf_38 hO209 hc213
                          have t217 := fI_of hc213 p215
                          obtain ⟨f218, p219⟩ := mf_47 hO209 hc213
                          have t220 := fI_of hc213 p219
                          obtain ⟨f221, p222⟩ := mf_48 hO209 hc213
                          have t223 := fI_of hc213 p222
                          obtain ⟨f224, p225⟩ := mf_49 hO209 hc213
                          have t226 := fI_of hc213 p225
                          obtain ⟨m227, e231, w229, w230⟩ := hp208
                          have k228 := e231.k hO0 (by omega)
                          rw [h35] at w229 w230
                          have w232 := k228.2.c rfl h35.symm h34.symm rfl rfl ‹fI h0 47 = f7.toInt› ‹fI h0 48 = f10.toInt› ‹fI h0 49 = f13.toInt› rfl
                          exact ur_ret rfl rfl (hQ _ _ ⟨_, rfl, Or.inr (Or.inr ⟨⟨⟨by omega, by omega, by omega, by omega, by omega⟩, by omega, fun q => by omega, fun q => by omega, fun q => by omega⟩, by omega, by omega, by omega⟩)⟩ hO209 hu209 (by omega) hp207 k228.1 (fun _ => ⟨_, _, w232, Or.inl ⟨by omega, by decide⟩, dzG w229 w230⟩))
                      · have t233 := ne_no c199
                        refine ur_push rfl ?_
                        exact ur_ret rfl rfl (hQ _ _ ⟨_, rfl, Or.inr (Or.inl ⟨⟨⟨by omega, by omega, by omega, by omega, by omega⟩, by omega, fun q => by omega, fun q => by omega, fun q => by omega⟩, by omega, by omega, by omega⟩)⟩ hO0 un.rf (by omega) hX0 KWm.rf (fun q => by exfalso; omega))
                    · have t234 := t196 c197
                      clear t195 t196
                      refine ur_push rfl ?_
                      exact ur_ret rfl rfl (hQ _ _ ⟨_, rfl, Or.inl ⟨fun q => by omega, by omega, by omega⟩⟩ hO0 un.rf (by omega) hX0 KWm.rf (fun q => by exfalso; omega))
            · have t235 := t56 c58
              clear t56 t57
              refine ur_ldI rfl rfl ?_
              refine ur_push rfl ?_
              refine ur_push rfl ?_
              refine ur_callv rfl rfl (Nat.le_of_ble_eq_true rfl) (Nat.le_of_ble_eq_true rfl) rfl (sp_in _ _ _ _ _) ?_
              refine ur_eqB rfl (fun c238 => ?_) (fun c238 => ?_)
              · have t239 := wi_noL c238 l_0 l_23
                refine ur_push rfl ?_
                exact ur_ret rfl rfl (hQ _ _ ⟨_, rfl, Or.inl ⟨fun q => by omega, by omega, by omega⟩⟩ hO0 un.rf (by omega) hX0 KWm.rf (fun q => by exfalso; omega))
              · have t240 := wi_toL c238 l_0 l_23
                refine ur_ldI rfl rfl ?_
                refine ur_inl rfl rfl (Nat.le_of_ble_eq_true rfl) (Nat.le_of_ble_eq_true rfl) (sd_X12_isSided hO0 _ (fun w241 hr242 => ?_))
                obtain ⟨b243, rfl, t244, t245⟩ := hr242
                show uRun _ (uCall Mt _) _ 105 (_, [(.inl (bi b243))], _, _, _)
                refine ur_eqB rfl (fun c246 => ?_) (fun c246 => ?_)
                · have t247 := t245 c246
                  clear t244 t245
                  refine ur_ldI rfl rfl ?_
                  refine ur_push rfl ?_
                  refine ur_if2 rfl (fun c248 => ?_) (fun c248 => ?_)
                  · have t249 := ne_to c248
                    refine ur_ldA rfl rfl ?_
                    refine ur_get rfl hc2 p4 ?_
                    refine ur_push rfl ?_
                    refine ur_if2 rfl (fun c250 => ?_) (fun c250 => ?_)
                    · have t251 := ne_to c250
                      refine ur_ldA rfl rfl ?_
                      refine ur_ldI rfl rfl ?_
                      refine ur_ldI rfl rfl ?_
                      refine ur_ldA rfl rfl ?_
                      refine ur_get rfl hc2 p8 ?_
                      refine ur_ldA rfl rfl ?_
                      refine ur_get rfl hc2 p11 ?_
                      refine ur_ldA rfl rfl ?_
                      refine ur_get rfl hc2 p14 ?_
                      refine ur_ldI rfl rfl ?_
                      refine ur_push rfl ?_
                      refine ur_if2 rfl (fun c252 => ?_) (fun c252 => ?_)
                      · have t253 := ne_to c252
                        exfalso
                        omega
                      · have t254 := ne_no c252
                        refine ur_push rfl ?_
                        refine ur_go rfl ?_
                        refine ur_ldI rfl rfl ?_
                        refine ur_ldI rfl rfl ?_
                        refine ur_inl rfl (rcv_of hc2) (Nat.le_of_ble_eq_true rfl) (Nat.le_of_ble_eq_true rfl) (se_X12_newWord hO0 hX0 _ (by show 0 ≤ x23.toInt ∧ x23.toInt ≤ 7; omega) _ (by show 0 ≤ x16.toInt ∧ x16.toInt ≤ 8; omega) _ _ _ _ (by show -1 ≤ ((-1) : Int32).toInt ∧ ((-1) : Int32).toInt ≤ 19; omega) _ _ (by omega) (by omega) (by omega) (by omega) (fun w255 h260 hr256 hO260 hv260 hp257 hp258 hp259 => ?_))
                        have hu260 := hv260
                        obtain ⟨x261, rfl, t262⟩ := hr256
                        show uRun _ (uCall Mt _) _ 181 (_, [(.inl x261)], _, _, _)
                        obtain ⟨fs263, hc264⟩ := hO260.mod
                        obtain ⟨f265, p266, t267⟩ := mf_38 hO260 hc264
                        have t268 := fI_of hc264 p266
                        obtain ⟨f269, p270⟩ := mf_47 hO260 hc264
                        have t271 := fI_of hc264 p270
                        obtain ⟨f272, p273⟩ := mf_48 hO260 hc264
                        have t274 := fI_of hc264 p273
                        obtain ⟨f275, p276⟩ := mf_49 hO260 hc264
                        have t277 := fI_of hc264 p276
                        obtain ⟨m278, e282, w280, w281⟩ := hp259
                        have k279 := e282.k hO0 (by omega)
                        rw [h35] at w280 w281
                        have w283 := k279.2.c rfl h35.symm h34.symm rfl rfl ‹fI h0 47 = f7.toInt› ‹fI h0 48 = f10.toInt› ‹fI h0 49 = f13.toInt› rfl
                        exact ur_ret rfl rfl (hQ _ _ ⟨_, rfl, Or.inr (Or.inr ⟨⟨⟨by omega, by omega, by omega, by omega, by omega⟩, by omega, fun q => by omega, fun q => by omega, fun q => by omega⟩, by omega, by omega, by omega⟩)⟩ hO260 hu260 (by omega) hp258 k279.1 (fun _ => ⟨_, _, w283, Or.inl ⟨by omega, by decide⟩, dzG w280 w281⟩))
                    · have t284 := ne_no c250
                      refine ur_push rfl ?_
                      exact ur_ret rfl rfl (hQ _ _ ⟨_, rfl, Or.inr (Or.inl ⟨⟨⟨by omega, by omega, by omega, by omega, by omega⟩, by omega, fun q => by omega, fun q => by omega, fun q => by omega⟩, by omega, by omega, by omega⟩)⟩ hO0 un.rf (by omega) hX0 KWm.rf (fun q => by exfalso; omega))
                  · have t285 := ne_no c248
                    refine ur_ldA rfl rfl ?_
                    refine ur_ldI rfl rfl ?_
                    refine ur_inl rfl (rcv_of hc2) (Nat.le_of_ble_eq_true rfl) (Nat.le_of_ble_eq_true rfl) (sd_X12_isWord hO0 _ (fun w286 hr287 => ?_))
                    obtain ⟨b288, rfl, t289, t290⟩ := hr287
                    show uRun _ (uCall Mt _) _ 128 (_, [(.inl (bi b288))], _, _, _)
                    refine ur_neB rfl (fun c291 => ?_) (fun c291 => ?_)
                    · have t292 := t289 c291
                      clear t289 t290
                      refine ur_ldA rfl rfl ?_
                      refine ur_get rfl hc2 p4 ?_
                      refine ur_push rfl ?_
                      refine ur_if2 rfl (fun c293 => ?_) (fun c293 => ?_)
                      · have t294 := ne_to c293
                        refine ur_ldA rfl rfl ?_
                        refine ur_ldI rfl rfl ?_
                        refine ur_ldI rfl rfl ?_
                        refine ur_ldA rfl rfl ?_
                        refine ur_get rfl hc2 p8 ?_
                        refine ur_ldA rfl rfl ?_
                        refine ur_get rfl hc2 p11 ?_
                        refine ur_ldA rfl rfl ?_
                        refine ur_get rfl hc2 p14 ?_
                        refine ur_ldI rfl rfl ?_
                        refine ur_push rfl ?_
                        refine ur_if2 rfl (fun c295 => ?_) (fun c295 => ?_)
                        · have t296 := ne_to c295
                          exfalso
                          omega
                        · have t297 := ne_no c295
                          refine ur_push rfl ?_
                          refine ur_go rfl ?_
                          refine ur_ldI rfl rfl ?_
                          refine ur_ldI rfl rfl ?_
                          refine ur_inl rfl (rcv_of hc2) (Nat.le_of_ble_eq_true rfl) (Nat.le_of_ble_eq_true rfl) (se_X12_newWord hO0 hX0 _ (by show 0 ≤ x23.toInt ∧ x23.toInt ≤ 7; omega) _ (by show 0 ≤ x16.toInt ∧ x16.toInt ≤ 8; omega) _ _ _ _ (by show -1 ≤ ((-1) : Int32).toInt ∧ ((-1) : Int32).toInt ≤ 19; omega) _ _ (by omega) (by omega) (by omega) (by omega) (fun w298 h303 hr299 hO303 hv303 hp300 hp301 hp302 => ?_))
                          have hu303 := hv303
                          obtain ⟨x304, rfl, t305⟩ := hr299
                          show uRun _ (uCall Mt _) _ 181 (_, [(.inl x304)], _, _, _)
                          obtain ⟨fs306, hc307⟩ := hO303.mod
                          obtain ⟨f308, p309, t310⟩ := mf_38 hO303 hc307
                          have t311 := fI_of hc307 p309
                          obtain ⟨f312, p313⟩ := mf_47 hO303 hc307
                          have t314 := fI_of hc307 p313
                          obtain ⟨f315, p316⟩ := mf_48 hO303 hc307
                          have t317 := fI_of hc307 p316
                          obtain ⟨f318, p319⟩ := mf_49 hO303 hc307
                          have t320 := fI_of hc307 p319
                          obtain ⟨m321, e325, w323, w324⟩ := hp302
                          have k322 := e325.k hO0 (by omega)
                          rw [h35] at w323 w324
                          have w326 := k322.2.c rfl h35.symm h34.symm rfl rfl ‹fI h0 47 = f7.toInt› ‹fI h0 48 = f10.toInt› ‹fI h0 49 = f13.toInt› rfl
                          exact ur_ret rfl rfl (hQ _ _ ⟨_, rfl, Or.inr (Or.inr ⟨⟨⟨by omega, by omega, by omega, by omega, by omega⟩, by omega, fun q => by omega, fun q => by omega, fun q => by omega⟩, by omega, by omega, by omega⟩)⟩ hO303 hu303 (by omega) hp301 k322.1 (fun _ => ⟨_, _, w326, Or.inl ⟨by omega, by decide⟩, dzG w323 w324⟩))
                      · have t327 := ne_no c293
                        refine ur_push rfl ?_
                        exact ur_ret rfl rfl (hQ _ _ ⟨_, rfl, Or.inr (Or.inl ⟨⟨⟨by omega, by omega, by omega, by omega, by omega⟩, by omega, fun q => by omega, fun q => by omega, fun q => by omega⟩, by omega, by omega, by omega⟩)⟩ hO0 un.rf (by omega) hX0 KWm.rf (fun q => by exfalso; omega))
                    · have t328 := t290 c291
                      clear t289 t290
                      refine ur_push rfl ?_
                      exact ur_ret rfl rfl (hQ _ _ ⟨_, rfl, Or.inl ⟨fun q => by omega, by omega, by omega⟩⟩ hO0 un.rf (by omega) hX0 KWm.rf (fun q => by exfalso; omega))
                · have t329 := t244 c246
                  clear t244 t245
                  refine ur_ldI rfl rfl ?_
                  refine ur_push rfl ?_
                  refine ur_push rfl ?_
                  refine ur_callv rfl rfl (Nat.le_of_ble_eq_true rfl) (Nat.le_of_ble_eq_true rfl) rfl (sp_in _ _ _ _ _) ?_
                  refine ur_eqB rfl (fun c332 => ?_) (fun c332 => ?_)
                  · have t333 := wi_noL c332 l_0 l_1
                    refine ur_push rfl ?_
                    exact ur_ret rfl rfl (hQ _ _ ⟨_, rfl, Or.inl ⟨fun q => by omega, by omega, by omega⟩⟩ hO0 un.rf (by omega) hX0 KWm.rf (fun q => by exfalso; omega))
                  · have t334 := wi_toL c332 l_0 l_1
                    refine ur_ldI rfl rfl ?_
                    refine ur_push rfl ?_
                    refine ur_if2 rfl (fun c335 => ?_) (fun c335 => ?_)
                    · have t336 := ne_to c335
                      refine ur_ldA rfl rfl ?_
                      refine ur_get rfl hc2 p4 ?_
                      refine ur_push rfl ?_
                      refine ur_if2 rfl (fun c337 => ?_) (fun c337 => ?_)
                      · have t338 := ne_to c337
                        refine ur_ldA rfl rfl ?_
                        refine ur_ldI rfl rfl ?_
                        refine ur_ldI rfl rfl ?_
                        refine ur_ldA rfl rfl ?_
                        refine ur_get rfl hc2 p8 ?_
                        refine ur_ldA rfl rfl ?_
                        refine ur_get rfl hc2 p11 ?_
                        refine ur_ldA rfl rfl ?_
                        refine ur_get rfl hc2 p14 ?_
                        refine ur_ldI rfl rfl ?_
                        refine ur_push rfl ?_
                        refine ur_if2 rfl (fun c339 => ?_) (fun c339 => ?_)
                        · have t340 := ne_to c339
                          exfalso
                          omega
                        · have t341 := ne_no c339
                          refine ur_push rfl ?_
                          refine ur_go rfl ?_
                          refine ur_ldI rfl rfl ?_
                          refine ur_ldI rfl rfl ?_
                          refine ur_inl rfl (rcv_of hc2) (Nat.le_of_ble_eq_true rfl) (Nat.le_of_ble_eq_true rfl) (se_X12_newWord hO0 hX0 _ (by show 0 ≤ x23.toInt ∧ x23.toInt ≤ 7; omega) _ (by show 0 ≤ x16.toInt ∧ x16.toInt ≤ 8; omega) _ _ _ _ (by show -1 ≤ ((-1) : Int32).toInt ∧ ((-1) : Int32).toInt ≤ 19; omega) _ _ (by omega) (by omega) (by omega) (by omega) (fun w342 h347 hr343 hO347 hv347 hp344 hp345 hp346 => ?_))
                          have hu347 := hv347
                          obtain ⟨x348, rfl, t349⟩ := hr343
                          show uRun _ (uCall Mt _) _ 181 (_, [(.inl x348)], _, _, _)
                          obtain ⟨fs350, hc351⟩ := hO347.mod
                          obtain ⟨f352, p353, t354⟩ := mf_38 hO347 hc351
                          have t355 := fI_of hc351 p353
                          obtain ⟨f356, p357⟩ := mf_47 hO347 hc351
                          have t358 := fI_of hc351 p357
                          obtain ⟨f359, p360⟩ := mf_48 hO347 hc351
                          have t361 := fI_of hc351 p360
                          obtain ⟨f362, p363⟩ := mf_49 hO347 hc351
                          have t364 := fI_of hc351 p363
                          obtain ⟨m365, e369, w367, w368⟩ := hp346
                          have k366 := e369.k hO0 (by omega)
                          rw [h35] at w367 w368
                          have w370 := k366.2.c rfl h35.symm h34.symm rfl rfl ‹fI h0 47 = f7.toInt› ‹fI h0 48 = f10.toInt› ‹fI h0 49 = f13.toInt› rfl
                          exact ur_ret rfl rfl (hQ _ _ ⟨_, rfl, Or.inr (Or.inr ⟨⟨⟨by omega, by omega, by omega, by omega, by omega⟩, by omega, fun q => by omega, fun q => by omega, fun q => by omega⟩, by omega, by omega, by omega⟩)⟩ hO347 hu347 (by omega) hp345 k366.1 (fun _ => ⟨_, _, w370, Or.inl ⟨by omega, by decide⟩, dzG w367 w368⟩))
                      · have t371 := ne_no c337
                        refine ur_push rfl ?_
                        exact ur_ret rfl rfl (hQ _ _ ⟨_, rfl, Or.inr (Or.inl ⟨⟨⟨by omega, by omega, by omega, by omega, by omega⟩, by omega, fun q => by omega, fun q => by omega, fun q => by omega⟩, by omega, by omega, by omega⟩)⟩ hO0 un.rf (by omega) hX0 KWm.rf (fun q => by exfalso; omega))
                    · have t372 := ne_no c335
                      refine ur_ldA rfl rfl ?_
                      refine ur_ldI rfl rfl ?_
                      refine ur_inl rfl (rcv_of hc2) (Nat.le_of_ble_eq_true rfl) (Nat.le_of_ble_eq_true rfl) (sd_X12_isWord hO0 _ (fun w373 hr374 => ?_))
                      obtain ⟨b375, rfl, t376, t377⟩ := hr374
                      show uRun _ (uCall Mt _) _ 128 (_, [(.inl (bi b375))], _, _, _)
                      refine ur_neB rfl (fun c378 => ?_) (fun c378 => ?_)
                      · have t379 := t376 c378
                        clear t376 t377
                        refine ur_ldA rfl rfl ?_
                        refine ur_get rfl hc2 p4 ?_
                        refine ur_push rfl ?_
                        refine ur_if2 rfl (fun c380 => ?_) (fun c380 => ?_)
                        · have t381 := ne_to c380
                          refine ur_ldA rfl rfl ?_
                          refine ur_ldI rfl rfl ?_
                          refine ur_ldI rfl rfl ?_
                          refine ur_ldA rfl rfl ?_
                          refine ur_get rfl hc2 p8 ?_
                          refine ur_ldA rfl rfl ?_
                          refine ur_get rfl hc2 p11 ?_
                          refine ur_ldA rfl rfl ?_
                          refine ur_get rfl hc2 p14 ?_
                          refine ur_ldI rfl rfl ?_
                          refine ur_push rfl ?_
                          refine ur_if2 rfl (fun c382 => ?_) (fun c382 => ?_)
                          · have t383 := ne_to c382
                            exfalso
                            omega
                          · have t384 := ne_no c382
                            refine ur_push rfl ?_
                            refine ur_go rfl ?_
                            refine ur_ldI rfl rfl ?_
                            refine ur_ldI rfl rfl ?_
                            refine ur_inl rfl (rcv_of hc2) (Nat.le_of_ble_eq_true rfl) (Nat.le_of_ble_eq_true rfl) (se_X12_newWord hO0 hX0 _ (by show 0 ≤ x23.toInt ∧ x23.toInt ≤ 7; omega) _ (by show 0 ≤ x16.toInt ∧ x16.toInt ≤ 8; omega) _ _ _ _ (by show -1 ≤ ((-1) : Int32).toInt ∧ ((-1) : Int32).toInt ≤ 19; omega) _ _ (by omega) (by omega) (by omega) (by omega) (fun w385 h390 hr386 hO390 hv390 hp387 hp388 hp389 => ?_))
                            have hu390 := hv390
                            obtain ⟨x391, rfl, t392⟩ := hr386
                            show uRun _ (uCall Mt _) _ 181 (_, [(.inl x391)], _, _, _)
                            obtain ⟨fs393, hc394⟩ := hO390.mod
                            obtain ⟨f395, p396, t397⟩ := mf_38 hO390 hc394
                            have t398 := fI_of hc394 p396
                            obtain ⟨f399, p400⟩ := mf_47 hO390 hc394
                            have t401 := fI_of hc394 p400
                            obtain ⟨f402, p403⟩ := mf_48 hO390 hc394
                            have t404 := fI_of hc394 p403
                            obtain ⟨f405, p406⟩ := mf_49 hO390 hc394
                            have t407 := fI_of hc394 p406
                            obtain ⟨m408, e412, w410, w411⟩ := hp389
                            have k409 := e412.k hO0 (by omega)
                            rw [h35] at w410 w411
                            have w413 := k409.2.c rfl h35.symm h34.symm rfl rfl ‹fI h0 47 = f7.toInt› ‹fI h0 48 = f10.toInt› ‹fI h0 49 = f13.toInt› rfl
                            exact ur_ret rfl rfl (hQ _ _ ⟨_, rfl, Or.inr (Or.inr ⟨⟨⟨by omega, by omega, by omega, by omega, by omega⟩, by omega, fun q => by omega, fun q => by omega, fun q => by omega⟩, by omega, by omega, by omega⟩)⟩ hO390 hu390 (by omega) hp388 k409.1 (fun _ => ⟨_, _, w413, Or.inl ⟨by omega, by decide⟩, dzG w410 w411⟩))
                        · have t414 := ne_no c380
                          refine ur_push rfl ?_
                          exact ur_ret rfl rfl (hQ _ _ ⟨_, rfl, Or.inr (Or.inl ⟨⟨⟨by omega, by omega, by omega, by omega, by omega⟩, by omega, fun q => by omega, fun q => by omega, fun q => by omega⟩, by omega, by omega, by omega⟩)⟩ hO0 un.rf (by omega) hX0 KWm.rf (fun q => by exfalso; omega))
                      · have t415 := t377 c378
                        clear t376 t377
                        refine ur_push rfl ?_
                        exact ur_ret rfl rfl (hQ _ _ ⟨_, rfl, Or.inl ⟨fun q => by omega, by omega, by omega⟩⟩ hO0 un.rf (by omega) hX0 KWm.rf (fun q => by exfalso; omega))
          · have t416 := wi_noL c51 l_0 l_400
            refine ur_push rfl ?_
            exact ur_ret rfl rfl (hQ _ _ ⟨_, rfl, Or.inl ⟨fun q => by omega, by omega, by omega⟩⟩ hO0 un.rf (by omega) hX0 KWm.rf (fun q => by exfalso; omega))
        · have t417 := eq_no c47
          refine ur_ldI rfl rfl ?_
          refine ur_push rfl ?_
          refine ur_if2 rfl (fun c418 => ?_) (fun c418 => ?_)
          · have t419 := le_to c418
            refine ur_push rfl ?_
            exact ur_ret rfl rfl (hQ _ _ ⟨_, rfl, Or.inl ⟨fun q => by omega, by omega, by omega⟩⟩ hO0 un.rf (by omega) hX0 KWm.rf (fun q => by exfalso; omega))
          · have t420 := le_no c418
            refine ur_ldA rfl rfl ?_
            refine ur_get rfl hc2 (mf_32 hO0 hc2) ?_
            refine ur_ldI rfl rfl ?_
            obtain ⟨xs422, hc421, hn423, he424⟩ := hO0.int (hO0.fix 91 (by decide) rfl)
            refine ur_aldV rfl hc421 hn423 (by omega) (fun x425 hx426 => ?_)
            have t427 := gI_of (j := x27) hc421 hx426
            refine ur_if1 rfl (fun c428 => ?_) (fun c428 => ?_)
            · have t429 := eq_to c428
              refine ur_push rfl ?_
              exact ur_ret rfl rfl (hQ _ _ ⟨_, rfl, Or.inl ⟨fun q => by omega, by omega, by omega⟩⟩ hO0 un.rf (by omega) hX0 KWm.rf (fun q => by exfalso; omega))
            · have t430 := eq_no c428
              refine ur_ldI rfl rfl ?_
              refine ur_push rfl ?_
              refine ur_push rfl ?_
              refine ur_callv rfl rfl (Nat.le_of_ble_eq_true rfl) (Nat.le_of_ble_eq_true rfl) rfl (sp_in _ _ _ _ _) ?_
              refine ur_neB rfl (fun c433 => ?_) (fun c433 => ?_)
              · have t434 := wi_toL c433 l_0 l_400
                refine ur_ldI rfl rfl ?_
                refine ur_inl rfl rfl (Nat.le_of_ble_eq_true rfl) (Nat.le_of_ble_eq_true rfl) (sd_X12_isLodged hO0 _ (fun w435 hr436 => ?_))
                obtain ⟨b437, rfl, t438, t439⟩ := hr436
                show uRun _ (uCall Mt _) _ 87 (_, [(.inl (bi b437))], _, _, _)
                refine ur_eqB rfl (fun c440 => ?_) (fun c440 => ?_)
                · have t441 := t439 c440
                  clear t438 t439
                  refine ur_ldI rfl rfl ?_
                  refine ur_inl rfl rfl (Nat.le_of_ble_eq_true rfl) (Nat.le_of_ble_eq_true rfl) (sd_X12_isSided hO0 _ (fun w442 hr443 => ?_))
                  obtain ⟨b444, rfl, t445, t446⟩ := hr443
                  show uRun _ (uCall Mt _) _ 105 (_, [(.inl (bi b444))], _, _, _)
                  refine ur_eqB rfl (fun c447 => ?_) (fun c447 => ?_)
                  · have t448 := t446 c447
                    clear t445 t446
                    refine ur_ldI rfl rfl ?_
                    refine ur_push rfl ?_
                    refine ur_if2 rfl (fun c449 => ?_) (fun c449 => ?_)
                    · have t450 := ne_to c449
                      refine ur_ldA rfl rfl ?_
                      refine ur_get rfl hc2 p4 ?_
                      refine ur_push rfl ?_
                      refine ur_if2 rfl (fun c451 => ?_) (fun c451 => ?_)
                      · have t452 := ne_to c451
                        refine ur_ldA rfl rfl ?_
                        refine ur_ldI rfl rfl ?_
                        refine ur_ldI rfl rfl ?_
                        refine ur_ldA rfl rfl ?_
                        refine ur_get rfl hc2 p8 ?_
                        refine ur_ldA rfl rfl ?_
                        refine ur_get rfl hc2 p11 ?_
                        refine ur_ldA rfl rfl ?_
                        refine ur_get rfl hc2 p14 ?_
                        refine ur_ldI rfl rfl ?_
                        refine ur_push rfl ?_
                        refine ur_if2 rfl (fun c453 => ?_) (fun c453 => ?_)
                        · have t454 := ne_to c453
                          refine ur_ldI rfl rfl ?_
                          refine ur_ldI rfl rfl ?_
                          refine ur_ldI rfl rfl ?_
                          refine ur_inl rfl (rcv_of hc2) (Nat.le_of_ble_eq_true rfl) (Nat.le_of_ble_eq_true rfl) (se_X12_newWord hO0 hX0 _ (by show 0 ≤ x23.toInt ∧ x23.toInt ≤ 7; omega) _ (by show 0 ≤ x16.toInt ∧ x16.toInt ≤ 8; omega) _ _ _ _ (by show -1 ≤ x27.toInt ∧ x27.toInt ≤ 19; omega) _ _ (by omega) (by omega) (by omega) (by omega) (fun w455 h460 hr456 hO460 hv460 hp457 hp458 hp459 => ?_))
                          have hu460 := hv460
                          obtain ⟨x461, rfl, t462⟩ := hr456
                          show uRun _ (uCall Mt _) _ 181 (_, [(.inl x461)], _, _, _)
                          obtain ⟨fs463, hc464⟩ := hO460.mod
                          obtain ⟨f465, p466, t467⟩ := mf_38 hO460 hc464
                          have t468 := fI_of hc464 p466
                          obtain ⟨f469, p470⟩ := mf_47 hO460 hc464
                          have t471 := fI_of hc464 p470
                          obtain ⟨f472, p473⟩ := mf_48 hO460 hc464
                          have t474 := fI_of hc464 p473
                          obtain ⟨f475, p476⟩ := mf_49 hO460 hc464
                          have t477 := fI_of hc464 p476
                          obtain ⟨m478, e482, w480, w481⟩ := hp459
                          have k479 := e482.k hO0 (by omega)
                          rw [h35] at w480 w481
                          have w483 := k479.2.c rfl h35.symm h34.symm rfl rfl ‹fI h0 47 = f7.toInt› ‹fI h0 48 = f10.toInt› ‹fI h0 49 = f13.toInt› rfl
                          exact ur_ret rfl rfl (hQ _ _ ⟨_, rfl, Or.inr (Or.inr ⟨⟨⟨by omega, by omega, by omega, by omega, by omega⟩, by omega, fun q => by omega, fun q => by omega, fun q => by omega⟩, by omega, by omega, by omega⟩)⟩ hO460 hu460 (by omega) hp458 k479.1 (fun _ => ⟨_, _, w483, Or.inr ⟨by omega, h36⟩, dzG w480 w481⟩))
                        · have t484 := ne_no c453
                          exfalso
                          omega
                      · have t485 := ne_no c451
                        refine ur_push rfl ?_
                        exact ur_ret rfl rfl (hQ _ _ ⟨_, rfl, Or.inr (Or.inl ⟨⟨⟨by omega, by omega, by omega, by omega, by omega⟩, by omega, fun q => by omega, fun q => by omega, fun q => by omega⟩, by omega, by omega, by omega⟩)⟩ hO0 un.rf (by omega) hX0 KWm.rf (fun q => by exfalso; omega))
                    · have t486 := ne_no c449
                      refine ur_ldA rfl rfl ?_
                      refine ur_ldI rfl rfl ?_
                      refine ur_inl rfl (rcv_of hc2) (Nat.le_of_ble_eq_true rfl) (Nat.le_of_ble_eq_true rfl) (sd_X12_isWord hO0 _ (fun w487 hr488 => ?_))
                      obtain ⟨b489, rfl, t490, t491⟩ := hr488
                      show uRun _ (uCall Mt _) _ 128 (_, [(.inl (bi b489))], _, _, _)
                      refine ur_neB rfl (fun c492 => ?_) (fun c492 => ?_)
                      · have t493 := t490 c492
                        clear t490 t491
                        refine ur_ldA rfl rfl ?_
                        refine ur_get rfl hc2 p4 ?_
                        refine ur_push rfl ?_
                        refine ur_if2 rfl (fun c494 => ?_) (fun c494 => ?_)
                        · have t495 := ne_to c494
                          refine ur_ldA rfl rfl ?_
                          refine ur_ldI rfl rfl ?_
                          refine ur_ldI rfl rfl ?_
                          refine ur_ldA rfl rfl ?_
                          refine ur_get rfl hc2 p8 ?_
                          refine ur_ldA rfl rfl ?_
                          refine ur_get rfl hc2 p11 ?_
                          refine ur_ldA rfl rfl ?_
                          refine ur_get rfl hc2 p14 ?_
                          refine ur_ldI rfl rfl ?_
                          refine ur_push rfl ?_
                          refine ur_if2 rfl (fun c496 => ?_) (fun c496 => ?_)
                          · have t497 := ne_to c496
                            refine ur_ldI rfl rfl ?_
                            refine ur_ldI rfl rfl ?_
                            refine ur_ldI rfl rfl ?_
                            refine ur_inl rfl (rcv_of hc2) (Nat.le_of_ble_eq_true rfl) (Nat.le_of_ble_eq_true rfl) (se_X12_newWord hO0 hX0 _ (by show 0 ≤ x23.toInt ∧ x23.toInt ≤ 7; omega) _ (by show 0 ≤ x16.toInt ∧ x16.toInt ≤ 8; omega) _ _ _ _ (by show -1 ≤ x27.toInt ∧ x27.toInt ≤ 19; omega) _ _ (by omega) (by omega) (by omega) (by omega) (fun w498 h503 hr499 hO503 hv503 hp500 hp501 hp502 => ?_))
                            have hu503 := hv503
                            obtain ⟨x504, rfl, t505⟩ := hr499
                            show uRun _ (uCall Mt _) _ 181 (_, [(.inl x504)], _, _, _)
                            obtain ⟨fs506, hc507⟩ := hO503.mod
                            obtain ⟨f508, p509, t510⟩ := mf_38 hO503 hc507
                            have t511 := fI_of hc507 p509
                            obtain ⟨f512, p513⟩ := mf_47 hO503 hc507
                            have t514 := fI_of hc507 p513
                            obtain ⟨f515, p516⟩ := mf_48 hO503 hc507
                            have t517 := fI_of hc507 p516
                            obtain ⟨f518, p519⟩ := mf_49 hO503 hc507
                            have t520 := fI_of hc507 p519
                            obtain ⟨m521, e525, w523, w524⟩ := hp502
                            have k522 := e525.k hO0 (by omega)
                            rw [h35] at w523 w524
                            have w526 := k522.2.c rfl h35.symm h34.symm rfl rfl ‹fI h0 47 = f7.toInt› ‹fI h0 48 = f10.toInt› ‹fI h0 49 = f13.toInt› rfl
                            exact ur_ret rfl rfl (hQ _ _ ⟨_, rfl, Or.inr (Or.inr ⟨⟨⟨by omega, by omega, by omega, by omega, by omega⟩, by omega, fun q => by omega, fun q => by omega, fun q => by omega⟩, by omega, by omega, by omega⟩)⟩ hO503 hu503 (by omega) hp501 k522.1 (fun _ => ⟨_, _, w526, Or.inr ⟨by omega, h36⟩, dzG w523 w524⟩))
                          · have t527 := ne_no c496
                            exfalso
                            omega
                        · have t528 := ne_no c494
                          refine ur_push rfl ?_
                          exact ur_ret rfl rfl (hQ _ _ ⟨_, rfl, Or.inr (Or.inl ⟨⟨⟨by omega, by omega, by omega, by omega, by omega⟩, by omega, fun q => by omega, fun q => by omega, fun q => by omega⟩, by omega, by omega, by omega⟩)⟩ hO0 un.rf (by omega) hX0 KWm.rf (fun q => by exfalso; omega))
                      · have t529 := t491 c492
                        clear t490 t491
                        refine ur_push rfl ?_
                        exact ur_ret rfl rfl (hQ _ _ ⟨_, rfl, Or.inl ⟨fun q => by omega, by omega, by omega⟩⟩ hO0 un.rf (by omega) hX0 KWm.rf (fun q => by exfalso; omega))
                  · have t530 := t445 c447
                    clear t445 t446
                    refine ur_ldI rfl rfl ?_
                    refine ur_push rfl ?_
                    refine ur_push rfl ?_
                    refine ur_callv rfl rfl (Nat.le_of_ble_eq_true rfl) (Nat.le_of_ble_eq_true rfl) rfl (sp_in _ _ _ _ _) ?_
                    refine ur_eqB rfl (fun c533 => ?_) (fun c533 => ?_)
                    · have t534 := wi_noL c533 l_0 l_1
                      refine ur_push rfl ?_
                      exact ur_ret rfl rfl (hQ _ _ ⟨_, rfl, Or.inl ⟨fun q => by omega, by omega, by omega⟩⟩ hO0 un.rf (by omega) hX0 KWm.rf (fun q => by exfalso; omega))
                    · have t535 := wi_toL c533 l_0 l_1
                      refine ur_ldI rfl rfl ?_
                      refine ur_push rfl ?_
                      refine ur_if2 rfl (fun c536 => ?_) (fun c536 => ?_)
                      · have t537 := ne_to c536
                        refine ur_ldA rfl rfl ?_
                        refine ur_get rfl hc2 p4 ?_
                        refine ur_push rfl ?_
                        refine ur_if2 rfl (fun c538 => ?_) (fun c538 => ?_)
                        · have t539 := ne_to c538
                          refine ur_ldA rfl rfl ?_
                          refine ur_ldI rfl rfl ?_
                          refine ur_ldI rfl rfl ?_
                          refine ur_ldA rfl rfl ?_
                          refine ur_get rfl hc2 p8 ?_
                          refine ur_ldA rfl rfl ?_
                          refine ur_get rfl hc2 p11 ?_
                          refine ur_ldA rfl rfl ?_
                          refine ur_get rfl hc2 p14 ?_
                          refine ur_ldI rfl rfl ?_
                          refine ur_push rfl ?_
                          refine ur_if2 rfl (fun c540 => ?_) (fun c540 => ?_)
                          · have t541 := ne_to c540
                            refine ur_ldI rfl rfl ?_
                            refine ur_ldI rfl rfl ?_
                            refine ur_ldI rfl rfl ?_
                            refine ur_inl rfl (rcv_of hc2) (Nat.le_of_ble_eq_true rfl) (Nat.le_of_ble_eq_true rfl) (se_X12_newWord hO0 hX0 _ (by show 0 ≤ x23.toInt ∧ x23.toInt ≤ 7; omega) _ (by show 0 ≤ x16.toInt ∧ x16.toInt ≤ 8; omega) _ _ _ _ (by show -1 ≤ x27.toInt ∧ x27.toInt ≤ 19; omega) _ _ (by omega) (by omega) (by omega) (by omega) (fun w542 h547 hr543 hO547 hv547 hp544 hp545 hp546 => ?_))
                            have hu547 := hv547
                            obtain ⟨x548, rfl, t549⟩ := hr543
                            show uRun _ (uCall Mt _) _ 181 (_, [(.inl x548)], _, _, _)
                            obtain ⟨fs550, hc551⟩ := hO547.mod
                            obtain ⟨f552, p553, t554⟩ := mf_38 hO547 hc551
                            have t555 := fI_of hc551 p553
                            obtain ⟨f556, p557⟩ := mf_47 hO547 hc551
                            have t558 := fI_of hc551 p557
                            obtain ⟨f559, p560⟩ := mf_48 hO547 hc551
                            have t561 := fI_of hc551 p560
                            obtain ⟨f562, p563⟩ := mf_49 hO547 hc551
                            have t564 := fI_of hc551 p563
                            obtain ⟨m565, e569, w567, w568⟩ := hp546
                            have k566 := e569.k hO0 (by omega)
                            rw [h35] at w567 w568
                            have w570 := k566.2.c rfl h35.symm h34.symm rfl rfl ‹fI h0 47 = f7.toInt› ‹fI h0 48 = f10.toInt› ‹fI h0 49 = f13.toInt› rfl
                            exact ur_ret rfl rfl (hQ _ _ ⟨_, rfl, Or.inr (Or.inr ⟨⟨⟨by omega, by omega, by omega, by omega, by omega⟩, by omega, fun q => by omega, fun q => by omega, fun q => by omega⟩, by omega, by omega, by omega⟩)⟩ hO547 hu547 (by omega) hp545 k566.1 (fun _ => ⟨_, _, w570, Or.inr ⟨by omega, h36⟩, dzG w567 w568⟩))
                          · have t571 := ne_no c540
                            exfalso
                            omega
                        · have t572 := ne_no c538
                          refine ur_push rfl ?_
                          exact ur_ret rfl rfl (hQ _ _ ⟨_, rfl, Or.inr (Or.inl ⟨⟨⟨by omega, by omega, by omega, by omega, by omega⟩, by omega, fun q => by omega, fun q => by omega, fun q => by omega⟩, by omega, by omega, by omega⟩)⟩ hO0 un.rf (by omega) hX0 KWm.rf (fun q => by exfalso; omega))
                      · have t573 := ne_no c536
                        refine ur_ldA rfl rfl ?_
                        refine ur_ldI rfl rfl ?_
                        refine ur_inl rfl (rcv_of hc2) (Nat.le_of_ble_eq_true rfl) (Nat.le_of_ble_eq_true rfl) (sd_X12_isWord hO0 _ (fun w574 hr575 => ?_))
                        obtain ⟨b576, rfl, t577, t578⟩ := hr575
                        show uRun _ (uCall Mt _) _ 128 (_, [(.inl (bi b576))], _, _, _)
                        refine ur_neB rfl (fun c579 => ?_) (fun c579 => ?_)
                        · have t580 := t577 c579
                          clear t577 t578
                          refine ur_ldA rfl rfl ?_
                          refine ur_get rfl hc2 p4 ?_
                          refine ur_push rfl ?_
                          refine ur_if2 rfl (fun c581 => ?_) (fun c581 => ?_)
                          · have t582 := ne_to c581
                            refine ur_ldA rfl rfl ?_
                            refine ur_ldI rfl rfl ?_
                            refine ur_ldI rfl rfl ?_
                            refine ur_ldA rfl rfl ?_
                            refine ur_get rfl hc2 p8 ?_
                            refine ur_ldA rfl rfl ?_
                            refine ur_get rfl hc2 p11 ?_
                            refine ur_ldA rfl rfl ?_
                            refine ur_get rfl hc2 p14 ?_
                            refine ur_ldI rfl rfl ?_
                            refine ur_push rfl ?_
                            refine ur_if2 rfl (fun c583 => ?_) (fun c583 => ?_)
                            · have t584 := ne_to c583
                              refine ur_ldI rfl rfl ?_
                              refine ur_ldI rfl rfl ?_
                              refine ur_ldI rfl rfl ?_
                              refine ur_inl rfl (rcv_of hc2) (Nat.le_of_ble_eq_true rfl) (Nat.le_of_ble_eq_true rfl) (se_X12_newWord hO0 hX0 _ (by show 0 ≤ x23.toInt ∧ x23.toInt ≤ 7; omega) _ (by show 0 ≤ x16.toInt ∧ x16.toInt ≤ 8; omega) _ _ _ _ (by show -1 ≤ x27.toInt ∧ x27.toInt ≤ 19; omega) _ _ (by omega) (by omega) (by omega) (by omega) (fun w585 h590 hr586 hO590 hv590 hp587 hp588 hp589 => ?_))
                              have hu590 := hv590
                              obtain ⟨x591, rfl, t592⟩ := hr586
                              show uRun _ (uCall Mt _) _ 181 (_, [(.inl x591)], _, _, _)
                              obtain ⟨fs593, hc594⟩ := hO590.mod
                              obtain ⟨f595, p596, t597⟩ := mf_38 hO590 hc594
                              have t598 := fI_of hc594 p596
                              obtain ⟨f599, p600⟩ := mf_47 hO590 hc594
                              have t601 := fI_of hc594 p600
                              obtain ⟨f602, p603⟩ := mf_48 hO590 hc594
                              have t604 := fI_of hc594 p603
                              obtain ⟨f605, p606⟩ := mf_49 hO590 hc594
                              have t607 := fI_of hc594 p606
                              obtain ⟨m608, e612, w610, w611⟩ := hp589
                              have k609 := e612.k hO0 (by omega)
                              rw [h35] at w610 w611
                              have w613 := k609.2.c rfl h35.symm h34.symm rfl rfl ‹fI h0 47 = f7.toInt› ‹fI h0 48 = f10.toInt› ‹fI h0 49 = f13.toInt› rfl
                              exact ur_ret rfl rfl (hQ _ _ ⟨_, rfl, Or.inr (Or.inr ⟨⟨⟨by omega, by omega, by omega, by omega, by omega⟩, by omega, fun q => by omega, fun q => by omega, fun q => by omega⟩, by omega, by omega, by omega⟩)⟩ hO590 hu590 (by omega) hp588 k609.1 (fun _ => ⟨_, _, w613, Or.inr ⟨by omega, h36⟩, dzG w610 w611⟩))
                            · have t614 := ne_no c583
                              exfalso
                              omega
                          · have t615 := ne_no c581
                            refine ur_push rfl ?_
                            exact ur_ret rfl rfl (hQ _ _ ⟨_, rfl, Or.inr (Or.inl ⟨⟨⟨by omega, by omega, by omega, by omega, by omega⟩, by omega, fun q => by omega, fun q => by omega, fun q => by omega⟩, by omega, by omega, by omega⟩)⟩ hO0 un.rf (by omega) hX0 KWm.rf (fun q => by exfalso; omega))
                        · have t616 := t578 c579
                          clear t577 t578
                          refine ur_push rfl ?_
                          exact ur_ret rfl rfl (hQ _ _ ⟨_, rfl, Or.inl ⟨fun q => by omega, by omega, by omega⟩⟩ hO0 un.rf (by omega) hX0 KWm.rf (fun q => by exfalso; omega))
                · have t617 := t438 c440
                  clear t438 t439
                  refine ur_ldI rfl rfl ?_
                  refine ur_push rfl ?_
                  refine ur_push rfl ?_
                  refine ur_callv rfl rfl (Nat.le_of_ble_eq_true rfl) (Nat.le_of_ble_eq_true rfl) rfl (sp_in _ _ _ _ _) ?_
                  refine ur_eqB rfl (fun c620 => ?_) (fun c620 => ?_)
                  · have t621 := wi_noL c620 l_0 l_23
                    refine ur_push rfl ?_
                    exact ur_ret rfl rfl (hQ _ _ ⟨_, rfl, Or.inl ⟨fun q => by omega, by omega, by omega⟩⟩ hO0 un.rf (by omega) hX0 KWm.rf (fun q => by exfalso; omega))
                  · have t622 := wi_toL c620 l_0 l_23
                    refine ur_ldI rfl rfl ?_
                    refine ur_inl rfl rfl (Nat.le_of_ble_eq_true rfl) (Nat.le_of_ble_eq_true rfl) (sd_X12_isSided hO0 _ (fun w623 hr624 => ?_))
                    obtain ⟨b625, rfl, t626, t627⟩ := hr624
                    show uRun _ (uCall Mt _) _ 105 (_, [(.inl (bi b625))], _, _, _)
                    refine ur_eqB rfl (fun c628 => ?_) (fun c628 => ?_)
                    · have t629 := t627 c628
                      clear t626 t627
                      refine ur_ldI rfl rfl ?_
                      refine ur_push rfl ?_
                      refine ur_if2 rfl (fun c630 => ?_) (fun c630 => ?_)
                      · have t631 := ne_to c630
                        refine ur_ldA rfl rfl ?_
                        refine ur_get rfl hc2 p4 ?_
                        refine ur_push rfl ?_
                        refine ur_if2 rfl (fun c632 => ?_) (fun c632 => ?_)
                        · have t633 := ne_to c632
                          refine ur_ldA rfl rfl ?_
                          refine ur_ldI rfl rfl ?_
                          refine ur_ldI rfl rfl ?_
                          refine ur_ldA rfl rfl ?_
                          refine ur_get rfl hc2 p8 ?_
                          refine ur_ldA rfl rfl ?_
                          refine ur_get rfl hc2 p11 ?_
                          refine ur_ldA rfl rfl ?_
                          refine ur_get rfl hc2 p14 ?_
                          refine ur_ldI rfl rfl ?_
                          refine ur_push rfl ?_
                          refine ur_if2 rfl (fun c634 => ?_) (fun c634 => ?_)
                          · have t635 := ne_to c634
                            refine ur_ldI rfl rfl ?_
                            refine ur_ldI rfl rfl ?_
                            refine ur_ldI rfl rfl ?_
                            refine ur_inl rfl (rcv_of hc2) (Nat.le_of_ble_eq_true rfl) (Nat.le_of_ble_eq_true rfl) (se_X12_newWord hO0 hX0 _ (by show 0 ≤ x23.toInt ∧ x23.toInt ≤ 7; omega) _ (by show 0 ≤ x16.toInt ∧ x16.toInt ≤ 8; omega) _ _ _ _ (by show -1 ≤ x27.toInt ∧ x27.toInt ≤ 19; omega) _ _ (by omega) (by omega) (by omega) (by omega) (fun w636 h641 hr637 hO641 hv641 hp638 hp639 hp640 => ?_))
                            have hu641 := hv641
                            obtain ⟨x642, rfl, t643⟩ := hr637
                            show uRun _ (uCall Mt _) _ 181 (_, [(.inl x642)], _, _, _)
                            obtain ⟨fs644, hc645⟩ := hO641.mod
                            obtain ⟨f646, p647, t648⟩ := mf_38 hO641 hc645
                            have t649 := fI_of hc645 p647
                            obtain ⟨f650, p651⟩ := mf_47 hO641 hc645
                            have t652 := fI_of hc645 p651
                            obtain ⟨f653, p654⟩ := mf_48 hO641 hc645
                            have t655 := fI_of hc645 p654
                            obtain ⟨f656, p657⟩ := mf_49 hO641 hc645
                            have t658 := fI_of hc645 p657
                            obtain ⟨m659, e663, w661, w662⟩ := hp640
                            have k660 := e663.k hO0 (by omega)
                            rw [h35] at w661 w662
                            have w664 := k660.2.c rfl h35.symm h34.symm rfl rfl ‹fI h0 47 = f7.toInt› ‹fI h0 48 = f10.toInt› ‹fI h0 49 = f13.toInt› rfl
                            exact ur_ret rfl rfl (hQ _ _ ⟨_, rfl, Or.inr (Or.inr ⟨⟨⟨by omega, by omega, by omega, by omega, by omega⟩, by omega, fun q => by omega, fun q => by omega, fun q => by omega⟩, by omega, by omega, by omega⟩)⟩ hO641 hu641 (by omega) hp639 k660.1 (fun _ => ⟨_, _, w664, Or.inr ⟨by omega, h36⟩, dzG w661 w662⟩))
                          · have t665 := ne_no c634
                            exfalso
                            omega
                        · have t666 := ne_no c632
                          refine ur_push rfl ?_
                          exact ur_ret rfl rfl (hQ _ _ ⟨_, rfl, Or.inr (Or.inl ⟨⟨⟨by omega, by omega, by omega, by omega, by omega⟩, by omega, fun q => by omega, fun q => by omega, fun q => by omega⟩, by omega, by omega, by omega⟩)⟩ hO0 un.rf (by omega) hX0 KWm.rf (fun q => by exfalso; omega))
                      · have t667 := ne_no c630
                        refine ur_ldA rfl rfl ?_
                        refine ur_ldI rfl rfl ?_
                        refine ur_inl rfl (rcv_of hc2) (Nat.le_of_ble_eq_true rfl) (Nat.le_of_ble_eq_true rfl) (sd_X12_isWord hO0 _ (fun w668 hr669 => ?_))
                        obtain ⟨b670, rfl, t671, t672⟩ := hr669
                        show uRun _ (uCall Mt _) _ 128 (_, [(.inl (bi b670))], _, _, _)
                        refine ur_neB rfl (fun c673 => ?_) (fun c673 => ?_)
                        · have t674 := t671 c673
                          clear t671 t672
                          refine ur_ldA rfl rfl ?_
                          refine ur_get rfl hc2 p4 ?_
                          refine ur_push rfl ?_
                          refine ur_if2 rfl (fun c675 => ?_) (fun c675 => ?_)
                          · have t676 := ne_to c675
                            refine ur_ldA rfl rfl ?_
                            refine ur_ldI rfl rfl ?_
                            refine ur_ldI rfl rfl ?_
                            refine ur_ldA rfl rfl ?_
                            refine ur_get rfl hc2 p8 ?_
                            refine ur_ldA rfl rfl ?_
                            refine ur_get rfl hc2 p11 ?_
                            refine ur_ldA rfl rfl ?_
                            refine ur_get rfl hc2 p14 ?_
                            refine ur_ldI rfl rfl ?_
                            refine ur_push rfl ?_
                            refine ur_if2 rfl (fun c677 => ?_) (fun c677 => ?_)
                            · have t678 := ne_to c677
                              refine ur_ldI rfl rfl ?_
                              refine ur_ldI rfl rfl ?_
                              refine ur_ldI rfl rfl ?_
                              refine ur_inl rfl (rcv_of hc2) (Nat.le_of_ble_eq_true rfl) (Nat.le_of_ble_eq_true rfl) (se_X12_newWord hO0 hX0 _ (by show 0 ≤ x23.toInt ∧ x23.toInt ≤ 7; omega) _ (by show 0 ≤ x16.toInt ∧ x16.toInt ≤ 8; omega) _ _ _ _ (by show -1 ≤ x27.toInt ∧ x27.toInt ≤ 19; omega) _ _ (by omega) (by omega) (by omega) (by omega) (fun w679 h684 hr680 hO684 hv684 hp681 hp682 hp683 => ?_))
                              have hu684 := hv684
                              obtain ⟨x685, rfl, t686⟩ := hr680
                              show uRun _ (uCall Mt _) _ 181 (_, [(.inl x685)], _, _, _)
                              obtain ⟨fs687, hc688⟩ := hO684.mod
                              obtain ⟨f689, p690, t691⟩ := mf_38 hO684 hc688
                              have t692 := fI_of hc688 p690
                              obtain ⟨f693, p694⟩ := mf_47 hO684 hc688
                              have t695 := fI_of hc688 p694
                              obtain ⟨f696, p697⟩ := mf_48 hO684 hc688
                              have t698 := fI_of hc688 p697
                              obtain ⟨f699, p700⟩ := mf_49 hO684 hc688
                              have t701 := fI_of hc688 p700
                              obtain ⟨m702, e706, w704, w705⟩ := hp683
                              have k703 := e706.k hO0 (by omega)
                              rw [h35] at w704 w705
                              have w707 := k703.2.c rfl h35.symm h34.symm rfl rfl ‹fI h0 47 = f7.toInt› ‹fI h0 48 = f10.toInt› ‹fI h0 49 = f13.toInt› rfl
                              exact ur_ret rfl rfl (hQ _ _ ⟨_, rfl, Or.inr (Or.inr ⟨⟨⟨by omega, by omega, by omega, by omega, by omega⟩, by omega, fun q => by omega, fun q => by omega, fun q => by omega⟩, by omega, by omega, by omega⟩)⟩ hO684 hu684 (by omega) hp682 k703.1 (fun _ => ⟨_, _, w707, Or.inr ⟨by omega, h36⟩, dzG w704 w705⟩))
                            · have t708 := ne_no c677
                              exfalso
                              omega
                          · have t709 := ne_no c675
                            refine ur_push rfl ?_
                            exact ur_ret rfl rfl (hQ _ _ ⟨_, rfl, Or.inr (Or.inl ⟨⟨⟨by omega, by omega, by omega, by omega, by omega⟩, by omega, fun q => by omega, fun q => by omega, fun q => by omega⟩, by omega, by omega, by omega⟩)⟩ hO0 un.rf (by omega) hX0 KWm.rf (fun q => by exfalso; omega))
                        · have t710 := t672 c673
                          clear t671 t672
                          refine ur_push rfl ?_
                          exact ur_ret rfl rfl (hQ _ _ ⟨_, rfl, Or.inl ⟨fun q => by omega, by omega, by omega⟩⟩ hO0 un.rf (by omega) hX0 KWm.rf (fun q => by exfalso; omega))
                    · have t711 := t626 c628
                      clear t626 t627
                      refine ur_ldI rfl rfl ?_
                      refine ur_push rfl ?_
                      refine ur_push rfl ?_
                      refine ur_callv rfl rfl (Nat.le_of_ble_eq_true rfl) (Nat.le_of_ble_eq_true rfl) rfl (sp_in _ _ _ _ _) ?_
                      refine ur_eqB rfl (fun c714 => ?_) (fun c714 => ?_)
                      · have t715 := wi_noL c714 l_0 l_1
                        refine ur_push rfl ?_
                        exact ur_ret rfl rfl (hQ _ _ ⟨_, rfl, Or.inl ⟨fun q => by omega, by omega, by omega⟩⟩ hO0 un.rf (by omega) hX0 KWm.rf (fun q => by exfalso; omega))
                      · have t716 := wi_toL c714 l_0 l_1
                        refine ur_ldI rfl rfl ?_
                        refine ur_push rfl ?_
                        refine ur_if2 rfl (fun c717 => ?_) (fun c717 => ?_)
                        · have t718 := ne_to c717
                          refine ur_ldA rfl rfl ?_
                          refine ur_get rfl hc2 p4 ?_
                          refine ur_push rfl ?_
                          refine ur_if2 rfl (fun c719 => ?_) (fun c719 => ?_)
                          · have t720 := ne_to c719
                            refine ur_ldA rfl rfl ?_
                            refine ur_ldI rfl rfl ?_
                            refine ur_ldI rfl rfl ?_
                            refine ur_ldA rfl rfl ?_
                            refine ur_get rfl hc2 p8 ?_
                            refine ur_ldA rfl rfl ?_
                            refine ur_get rfl hc2 p11 ?_
                            refine ur_ldA rfl rfl ?_
                            refine ur_get rfl hc2 p14 ?_
                            refine ur_ldI rfl rfl ?_
                            refine ur_push rfl ?_
                            refine ur_if2 rfl (fun c721 => ?_) (fun c721 => ?_)
                            · have t722 := ne_to c721
                              refine ur_ldI rfl rfl ?_
                              refine ur_ldI rfl rfl ?_
                              refine ur_ldI rfl rfl ?_
                              refine ur_inl rfl (rcv_of hc2) (Nat.le_of_ble_eq_true rfl) (Nat.le_of_ble_eq_true rfl) (se_X12_newWord hO0 hX0 _ (by show 0 ≤ x23.toInt ∧ x23.toInt ≤ 7; omega) _ (by show 0 ≤ x16.toInt ∧ x16.toInt ≤ 8; omega) _ _ _ _ (by show -1 ≤ x27.toInt ∧ x27.toInt ≤ 19; omega) _ _ (by omega) (by omega) (by omega) (by omega) (fun w723 h728 hr724 hO728 hv728 hp725 hp726 hp727 => ?_))
                              have hu728 := hv728
                              obtain ⟨x729, rfl, t730⟩ := hr724
                              show uRun _ (uCall Mt _) _ 181 (_, [(.inl x729)], _, _, _)
                              obtain ⟨fs731, hc732⟩ := hO728.mod
                              obtain ⟨f733, p734, t735⟩ := mf_38 hO728 hc732
                              have t736 := fI_of hc732 p734
                              obtain ⟨f737, p738⟩ := mf_47 hO728 hc732
                              have t739 := fI_of hc732 p738
                              obtain ⟨f740, p741⟩ := mf_48 hO728 hc732
                              have t742 := fI_of hc732 p741
                              obtain ⟨f743, p744⟩ := mf_49 hO728 hc732
                              have t745 := fI_of hc732 p744
                              obtain ⟨m746, e750, w748, w749⟩ := hp727
                              have k747 := e750.k hO0 (by omega)
                              rw [h35] at w748 w749
                              have w751 := k747.2.c rfl h35.symm h34.symm rfl rfl ‹fI h0 47 = f7.toInt› ‹fI h0 48 = f10.toInt› ‹fI h0 49 = f13.toInt› rfl
                              exact ur_ret rfl rfl (hQ _ _ ⟨_, rfl, Or.inr (Or.inr ⟨⟨⟨by omega, by omega, by omega, by omega, by omega⟩, by omega, fun q => by omega, fun q => by omega, fun q => by omega⟩, by omega, by omega, by omega⟩)⟩ hO728 hu728 (by omega) hp726 k747.1 (fun _ => ⟨_, _, w751, Or.inr ⟨by omega, h36⟩, dzG w748 w749⟩))
                            · have t752 := ne_no c721
                              exfalso
                              omega
                          · have t753 := ne_no c719
                            refine ur_push rfl ?_
                            exact ur_ret rfl rfl (hQ _ _ ⟨_, rfl, Or.inr (Or.inl ⟨⟨⟨by omega, by omega, by omega, by omega, by omega⟩, by omega, fun q => by omega, fun q => by omega, fun q => by omega⟩, by omega, by omega, by omega⟩)⟩ hO0 un.rf (by omega) hX0 KWm.rf (fun q => by exfalso; omega))
                        · have t754 := ne_no c717
                          refine ur_ldA rfl rfl ?_
                          refine ur_ldI rfl rfl ?_
                          refine ur_inl rfl (rcv_of hc2) (Nat.le_of_ble_eq_true rfl) (Nat.le_of_ble_eq_true rfl) (sd_X12_isWord hO0 _ (fun w755 hr756 => ?_))
                          obtain ⟨b757, rfl, t758, t759⟩ := hr756
                          show uRun _ (uCall Mt _) _ 128 (_, [(.inl (bi b757))], _, _, _)
                          refine ur_neB rfl (fun c760 => ?_) (fun c760 => ?_)
                          · have t761 := t758 c760
                            clear t758 t759
                            refine ur_ldA rfl rfl ?_
                            refine ur_get rfl hc2 p4 ?_
                            refine ur_push rfl ?_
                            refine ur_if2 rfl (fun c762 => ?_) (fun c762 => ?_)
                            · have t763 := ne_to c762
                              refine ur_ldA rfl rfl ?_
                              refine ur_ldI rfl rfl ?_
                              refine ur_ldI rfl rfl ?_
                              refine ur_ldA rfl rfl ?_
                              refine ur_get rfl hc2 p8 ?_
                              refine ur_ldA rfl rfl ?_
                              refine ur_get rfl hc2 p11 ?_
                              refine ur_ldA rfl rfl ?_
                              refine ur_get rfl hc2 p14 ?_
                              refine ur_ldI rfl rfl ?_
                              refine ur_push rfl ?_
                              refine ur_if2 rfl (fun c764 => ?_) (fun c764 => ?_)
                              · have t765 := ne_to c764
                                refine ur_ldI rfl rfl ?_
                                refine ur_ldI rfl rfl ?_
                                refine ur_ldI rfl rfl ?_
                                refine ur_inl rfl (rcv_of hc2) (Nat.le_of_ble_eq_true rfl) (Nat.le_of_ble_eq_true rfl) (se_X12_newWord hO0 hX0 _ (by show 0 ≤ x23.toInt ∧ x23.toInt ≤ 7; omega) _ (by show 0 ≤ x16.toInt ∧ x16.toInt ≤ 8; omega) _ _ _ _ (by show -1 ≤ x27.toInt ∧ x27.toInt ≤ 19; omega) _ _ (by omega) (by omega) (by omega) (by omega) (fun w766 h771 hr767 hO771 hv771 hp768 hp769 hp770 => ?_))
                                have hu771 := hv771
                                obtain ⟨x772, rfl, t773⟩ := hr767
                                show uRun _ (uCall Mt _) _ 181 (_, [(.inl x772)], _, _, _)
                                obtain ⟨fs774, hc775⟩ := hO771.mod
                                obtain ⟨f776, p777, t778⟩ := mf_38 hO771 hc775
                                have t779 := fI_of hc775 p777
                                obtain ⟨f780, p781⟩ := mf_47 hO771 hc775
                                have t782 := fI_of hc775 p781
                                obtain ⟨f783, p784⟩ := mf_48 hO771 hc775
                                have t785 := fI_of hc775 p784
                                obtain ⟨f786, p787⟩ := mf_49 hO771 hc775
                                have t788 := fI_of hc775 p787
                                obtain ⟨m789, e793, w791, w792⟩ := hp770
                                have k790 := e793.k hO0 (by omega)
                                rw [h35] at w791 w792
                                have w794 := k790.2.c rfl h35.symm h34.symm rfl rfl ‹fI h0 47 = f7.toInt› ‹fI h0 48 = f10.toInt› ‹fI h0 49 = f13.toInt› rfl
                                exact ur_ret rfl rfl (hQ _ _ ⟨_, rfl, Or.inr (Or.inr ⟨⟨⟨by omega, by omega, by omega, by omega, by omega⟩, by omega, fun q => by omega, fun q => by omega, fun q => by omega⟩, by omega, by omega, by omega⟩)⟩ hO771 hu771 (by omega) hp769 k790.1 (fun _ => ⟨_, _, w794, Or.inr ⟨by omega, h36⟩, dzG w791 w792⟩))
                              · have t795 := ne_no c764
                                exfalso
                                omega
                            · have t796 := ne_no c762
                              refine ur_push rfl ?_
                              exact ur_ret rfl rfl (hQ _ _ ⟨_, rfl, Or.inr (Or.inl ⟨⟨⟨by omega, by omega, by omega, by omega, by omega⟩, by omega, fun q => by omega, fun q => by omega, fun q => by omega⟩, by omega, by omega, by omega⟩)⟩ hO0 un.rf (by omega) hX0 KWm.rf (fun q => by exfalso; omega))
                          · have t797 := t759 c760
                            clear t758 t759
                            refine ur_push rfl ?_
                            exact ur_ret rfl rfl (hQ _ _ ⟨_, rfl, Or.inl ⟨fun q => by omega, by omega, by omega⟩⟩ hO0 un.rf (by omega) hX0 KWm.rf (fun q => by exfalso; omega))
              · have t798 := wi_noL c433 l_0 l_400
                refine ur_push rfl ?_
                exact ur_ret rfl rfl (hQ _ _ ⟨_, rfl, Or.inl ⟨fun q => by omega, by omega, by omega⟩⟩ hO0 un.rf (by omega) hX0 KWm.rf (fun q => by exfalso; omega))

set_option maxRecDepth 20000 in
set_option maxHeartbeats 4000000 in
theorem se_X12_words {d kc ks : Nat} {h0 : aH} {Q : Option aV → aH → Prop} (hO0 : OK h0) (hX0 : SX h0) (a1 : Int32) (a2 : Int32) (a3 : Int32) (a4 : Int32) (hQ : ∀ r h', (∃ x : Int32, r = some (.inl x) ∧ ((¬ ((0 ≤ a1.toInt ∧ a1.toInt ≤ 8) ∧ (0 ≤ a2.toInt ∧ a2.toInt ≤ 5) ∧ 1 ≤ a4.toInt ∧ a4.toInt ≤ 12) → x.toInt = -1 ∧ fI h' 38 = fI h0 38) ∧ (((0 ≤ a1.toInt ∧ a1.toInt ≤ 8) ∧ (0 ≤ a2.toInt ∧ a2.toInt ≤ 5) ∧ 1 ≤ a4.toInt ∧ a4.toInt ≤ 12) ∧ gI h0 110 a2.toInt = -1 → x.toInt = 0 ∧ fI h' 38 = fI h0 38) ∧ (((0 ≤ a1.toInt ∧ a1.toInt ≤ 8) ∧ (0 ≤ a2.toInt ∧ a2.toInt ≤ 5) ∧ 1 ≤ a4.toInt ∧ a4.toInt ≤ 12) ∧ gI h0 110 a2.toInt ≠ -1 ∧ gI h0 110 a2.toInt ≠ -3 → x.toInt = -12 ∧ fI h' 38 = fI h0 38) ∧ (((0 ≤ a1.toInt ∧ a1.toInt ≤ 8) ∧ (0 ≤ a2.toInt ∧ a2.toInt ≤ 5) ∧ 1 ≤ a4.toInt ∧ a4.toInt ≤ 12) ∧ gI h0 110 a2.toInt = -3 → isR (GM h0 a2.toInt a3.toInt a4.toInt (fI h0 38)) x.toInt ∧ fI h' 38 = fI h0 38 + x.toInt))) → OK h' → un [96, 97, 98, 99, 100, 101, 102, 103, 7938] h0 h' → (fI h' 38 ≤ fI h0 38 + 12) → (SX h') → (KWm h0 h') → (∀ j : Nat, (j : Int) < fI h' 38 - fI h0 38 → NWRm h0 h' a2.toInt a3.toInt (fI h0 38) a1.toInt j) → Q r h') : uCall Mt (d + 3) 240 [(.inr (.inr (some 69))), (.inl a1), (.inl a2), (.inl a3), (.inl a4)] h0 kc ks Q := by
  have l_m12 : ((-12) : Int32).toInt = -12 := by decide
  have l_m3 : ((-3) : Int32).toInt = -3 := by decide
  have l_m1 : ((-1) : Int32).toInt = -1 := by decide
  have l_0 : ((0) : Int32).toInt = 0 := by decide
  have l_1 : ((1) : Int32).toInt = 1 := by decide
  have l_2 : ((2) : Int32).toInt = 2 := by decide
  have l_3 : ((3) : Int32).toInt = 3 := by decide
  have l_4 : ((4) : Int32).toInt = 4 := by decide
  have l_5 : ((5) : Int32).toInt = 5 := by decide
  have l_8 : ((8) : Int32).toInt = 8 := by decide
  have l_12 : ((12) : Int32).toInt = 12 := by decide
  have l_60 : ((60) : Int32).toInt = 60 := by decide
  have l_150 : ((150) : Int32).toInt = 150 := by decide
  have l_400 : ((400) : Int32).toInt = 400 := by decide
  have l_9999 : ((9999) : Int32).toInt = 9999 := by decide
  refine uc_ink [some (.inr (.inr (some 69))), some (.inl a1), some (.inl a2), some (.inl a3), some (.inl a4), none, none, none, none, none, none, none, none] mt_240 (Nat.le_of_ble_eq_true rfl) rfl ?_
  obtain ⟨fs1, hc2⟩ := hO0.mod
  obtain ⟨f3, p4, t5⟩ := mf_38 hO0 hc2
  have t6 := fI_of hc2 p4
  have t7 := gI111 hO0 a2.toInt
  refine ur_ldI rfl rfl ?_
  refine ur_callv rfl rfl (Nat.le_of_ble_eq_true rfl) (Nat.le_of_ble_eq_true rfl) rfl (sq_isPpl _ _) ?_
  refine ur_eqB rfl (fun c10 => ?_) (fun c10 => ?_)
  · have t11 := wi_noL c10 l_0 l_8
    refine ur_push rfl ?_
    exact ur_ret rfl rfl (hQ _ _ ⟨_, rfl, ⟨fun q => by omega, fun q => by omega, fun q => by omega, fun q => by exfalso; omega⟩⟩ hO0 un.rf (by omega) hX0 KWm.rf (fun j hj => by exfalso; omega))
  · have t12 := wi_toL c10 l_0 l_8
    refine ur_ldI rfl rfl ?_
    refine ur_callv rfl rfl (Nat.le_of_ble_eq_true rfl) (Nat.le_of_ble_eq_true rfl) rfl (sq_isShf _ _) ?_
    refine ur_eqB rfl (fun c15 => ?_) (fun c15 => ?_)
    · have t16 := wi_noL c15 l_0 l_5
      refine ur_push rfl ?_
      exact ur_ret rfl rfl (hQ _ _ ⟨_, rfl, ⟨fun q => by omega, fun q => by omega, fun q => by omega, fun q => by exfalso; omega⟩⟩ hO0 un.rf (by omega) hX0 KWm.rf (fun j hj => by exfalso; omega))
    · have t17 := wi_toL c15 l_0 l_5
      refine ur_ldI rfl rfl ?_
      refine ur_push rfl ?_
      refine ur_push rfl ?_
      refine ur_callv rfl rfl (Nat.le_of_ble_eq_true rfl) (Nat.le_of_ble_eq_true rfl) rfl (sp_in _ _ _ _ _) ?_
      refine ur_neB rfl (fun c20 => ?_) (fun c20 => ?_)
      · have t21 := wi_toL c20 l_1 l_12
        refine ur_ldA rfl rfl ?_
        refine ur_get rfl hc2 (mf_65 hO0 hc2) ?_
        refine ur_ldI rfl rfl ?_
        obtain ⟨xs23, hc22, hn24, he25⟩ := hO0.int (hO0.fix 110 (by decide) rfl)
        refine ur_aldV rfl hc22 hn24 (by omega) (fun x26 hx27 => ?_)
        have t28 := gI_of (j := a2) hc22 hx27
        have t29 : -6 ≤ x26.toInt ∧ x26.toInt ≤ 149 := he25 _ _ hx27
        refine ur_push rfl ?_
        refine ur_if2 rfl (fun c30 => ?_) (fun c30 => ?_)
        · have t31 := eq_to c30
          refine ur_ldA rfl rfl ?_
          refine ur_get rfl hc2 (mf_65 hO0 hc2) ?_
          refine ur_ldI rfl rfl ?_
          refine ur_aldV rfl hc22 hn24 (by omega) (fun x32 hx33 => ?_)
          obtain rfl : x26 = x32 := Option.some.inj (hx27.symm.trans hx33)
          refine ur_push rfl ?_
          refine ur_if2 rfl (fun c34 => ?_) (fun c34 => ?_)
          · have t35 := ne_to c34
            exfalso
            omega
          · have t36 := ne_no c34
            refine ur_push rfl ?_
            exact ur_ret rfl rfl (hQ _ _ ⟨_, rfl, ⟨fun q => by omega, fun q => by omega, fun q => by omega, fun q => by exfalso; omega⟩⟩ hO0 un.rf (by omega) hX0 KWm.rf (fun j hj => by exfalso; omega))
        · have t37 := eq_no c30
          refine ur_ldA rfl rfl ?_
          refine ur_get rfl hc2 (mf_65 hO0 hc2) ?_
          refine ur_ldI rfl rfl ?_
          refine ur_aldV rfl hc22 hn24 (by omega) (fun x38 hx39 => ?_)
          obtain rfl : x26 = x38 := Option.some.inj (hx27.symm.trans hx39)
          refine ur_push rfl ?_
          refine ur_if2 rfl (fun c40 => ?_) (fun c40 => ?_)
          · have t41 := eq_to c40
            refine ur_ldA rfl rfl ?_
            refine ur_get rfl hc2 (mf_65 hO0 hc2) ?_
            refine ur_ldI rfl rfl ?_
            refine ur_aldV rfl hc22 hn24 (by omega) (fun x42 hx43 => ?_)
            obtain rfl : x26 = x42 := Option.some.inj (hx27.symm.trans hx43)
            refine ur_push rfl ?_
            refine ur_if2 rfl (fun c44 => ?_) (fun c44 => ?_)
            · have t45 := ne_to c44
              refine ur_push rfl ?_
              refine ur_svIk [some (.inr (.inr (some 69))), some (.inl a1), some (.inl a2), some (.inl a3), some (.inl a4), some (.inl 0), none, none, none, none, none, none, none] rfl rfl ?_
              have L53 : ∀ (m54 : Nat) (x46 : Int32) (u47 : Option aV) (u48 : Option aV) (u49 : Option aV) (u50 : Option aV) (u51 : Option aV) (u52 : Option aV) (h56 : aH) , OK h56 → un [96, 97, 98, 99, 100, 101, 102, 103, 7938] h0 h56 → ((0 ≤ x46.toInt ∧ x46.toInt ≤ 12) ∧ fI h56 38 = fI h0 38 + x46.toInt ∧ x46.toInt ≤ a4.toInt) → (∀ j : Nat, (j : Int) < x46.toInt → GM h0 a2.toInt a3.toInt a4.toInt (fI h0 38) j) → (KWm h0 h56) → (∀ j : Nat, (j : Int) < x46.toInt → NWRm h0 h56 a2.toInt a3.toInt (fI h0 38) a1.toInt j) → (SX h56) → ((13 - x46.toInt).toNat) < m54 → uRun oX12_words (uCall Mt (d + 2)) Q 66 ([some (.inr (.inr (some 69))), some (.inl a1), some (.inl a2), some (.inl a3), some (.inl a4), some (.inl x46), u47, none, u48, u49, u50, u51, u52], [], h56, kc, ks) := by
                intro m54
                induction m54 with
                | zero => intro x46 u47 u48 u49 u50 u51 u52 h56 hO56 hu56 iv61 px57 px58 px59 px60 mm62; omega
                | succ m54 ih55 =>
                  intro x46 u47 u48 u49 u50 u51 u52 h56 hO56 hu56 iv61 px57 px58 px59 px60 mm62
                  refine ur_ldI rfl rfl ?_
                  refine ur_ldI rfl rfl ?_
                  have z63 := any_r x46
                  have z64 := any_r a4
                  refine ur_if2 rfl (fun c65 => ?_) (fun c65 => ?_)
                  · have t66 := le_to c65
                    refine ur_ldI rfl rfl ?_
                    obtain ⟨fs67, hc68⟩ := hO56.mod
                    obtain ⟨f69, p70, t71⟩ := mf_38 hO56 hc68
                    have t72 := fI_of hc68 p70
                    exact ur_ret rfl rfl (hQ _ _ ⟨_, rfl, ⟨fun q => absurd (by omega) q, fun q => by exfalso; omega, fun q => by exfalso; omega, fun _ => ⟨⟨by omega, (fun j hj => px57 j (by omega)), fun q => by unfold GM FOKd at q; rw [show ((a4.toInt.toNat : Nat) : Int) = a4.toInt by omega] at q; omega⟩, by omega⟩⟩⟩ hO56 hu56 (by omega) px60 px58 (fun j hj => px59 j (by omega)))
                  · have t73 := le_no c65
                    have t74 : gI h56 111 a2.toInt = gI h0 111 a2.toInt := gI_keep (a := 111) (kd := 0) (n := 6) hO0 hu56 _ (by decide) rfl (by decide) rfl (by decide) (by decide)
                    refine ur_ldI rfl rfl ?_
                    refine ur_i2lV rfl (fun y75 e76 => ?_)
                    have z77 := any_r a3
                    have t78 := tj_i2l e76
                    refine ur_push rfl ?_
                    refine ur_ldI rfl rfl ?_
                    refine ur_binV rfl (fun x79 e80 => ?_)
                    have t81 := ti_mulR e80 l_5 (by omega) (by omega)
                    refine ur_i2lV rfl (fun y82 e83 => ?_)
                    have z84 := any_r x79
                    have t85 := tj_i2l e83
                    refine ur_binJV rfl (fun y86 e87 => ?_)
                    have t88 := tj_add e87 (by omega) (by omega)
                    refine ur_svJk [some (.inr (.inr (some 69))), some (.inl a1), some (.inl a2), some (.inl a3), some (.inl a4), some (.inl x46), some (.inr (.inl y86)), none, u48, u49, u50, u51, u52] rfl rfl ?_
                    refine ur_ldJ rfl rfl ?_
                    refine ur_push rfl ?_
                    refine ur_cmpJV rfl (fun x89 e90 => ?_)
                    have t91 : ((0) : Int64).toInt = 0 := by decide
                    have t92 := tj_cmp e90
                    refine ur_if1 rfl (fun c93 => ?_) (fun c93 => ?_)
                    · have t94 := lt_to c93
                      refine ur_ldI rfl rfl ?_
                      obtain ⟨fs95, hc96⟩ := hO56.mod
                      obtain ⟨f97, p98, t99⟩ := mf_38 hO56 hc96
                      have t100 := fI_of hc96 p98
                      exact ur_ret rfl rfl (hQ _ _ ⟨_, rfl, ⟨fun q => absurd (by omega) q, fun q => by exfalso; omega, fun q => by exfalso; omega, fun _ => ⟨⟨by omega, px57, fun q => by unfold GM FOKd at q; rw [show ((x46.toInt.toNat : Nat) : Int) = x46.toInt by omega] at q; omega⟩, by omega⟩⟩⟩ hO56 hu56 (by omega) px60 px58 (fun j hj => px59 j (by omega)))
                    · have t101 := lt_no c93
                      refine ur_ldJ rfl rfl ?_
                      refine ur_push rfl ?_
                      refine ur_binJV rfl (fun y102 e103 => ?_)
                      have t104 : ((4) : Int64).toInt = 4 := by decide
                      have t105 : ((4) : Int64).toInt = 4 := by decide
                      have t106 := tj_add e103 (by omega) (by omega)
                      refine ur_ldA rfl rfl ?_
                      obtain ⟨fs107, hc108⟩ := hO56.mod
                      refine ur_get rfl hc108 (mf_66 hO56 hc108) ?_
                      refine ur_ldI rfl rfl ?_
                      obtain ⟨xs110, hc109, hn111, he112⟩ := hO56.int (hO56.fix 111 (by decide) rfl)
                      refine ur_aldV rfl hc109 hn111 (by omega) (fun x113 hx114 => ?_)
                      have t115 := gI_of (j := a2) hc109 hx114
                      have t116 : 0 ≤ x113.toInt ∧ x113.toInt ≤ 60 := he112 _ _ hx114
                      refine ur_i2lV rfl (fun y117 e118 => ?_)
                      have z119 := any_r x113
                      have t120 := tj_i2l e118
                      refine ur_cmpJV rfl (fun x121 e122 => ?_)
                      have t123 := tj_cmp e122
                      refine ur_if1 rfl (fun c124 => ?_) (fun c124 => ?_)
                      · have t125 := le_to c124
                        refine ur_ldI rfl rfl ?_
                        obtain ⟨f126, p127, t128⟩ := mf_38 hO56 hc108
                        have t129 := fI_of hc108 p127
                        exact ur_ret rfl rfl (hQ _ _ ⟨_, rfl, ⟨fun q => absurd (by omega) q, fun q => by exfalso; omega, fun q => by exfalso; omega, fun _ => ⟨⟨by omega, px57, fun q => by unfold GM FOKd at q; rw [show ((x46.toInt.toNat : Nat) : Int) = x46.toInt by omega] at q; omega⟩, by omega⟩⟩⟩ hO56 hu56 (by omega) px60 px58 (fun j hj => px59 j (by omega)))
                      · have t130 := le_no c124
                        refine ur_ldA rfl rfl ?_
                        obtain ⟨f131, p132, t133⟩ := mf_38 hO56 hc108
                        have t134 := fI_of hc108 p132
                        refine ur_get rfl hc108 p132 ?_
                        refine ur_push rfl ?_
                        refine ur_if2 rfl (fun c135 => ?_) (fun c135 => ?_)
                        · have t136 := ne_to c135
                          refine ur_push rfl ?_
                          refine ur_ldI rfl rfl ?_
                          refine ur_binV rfl (fun x137 e138 => ?_)
                          have z139 := any_r a2
                          have t140 := ti_mulR e138 l_60 (by omega) (by omega)
                          refine ur_ldJ rfl rfl ?_
                          refine ur_l2iV rfl (fun x141 e142 => ?_)
                          have t143 : -2147483648 ≤ y86.toInt ∧ y86.toInt ≤ 2147483647 → x141.toInt = y86.toInt := fun q => tj_l2i e142 q
                          have t144 : 0 ≤ x141.toInt ∧ x141.toInt ≤ 59 := by omega
                          refine ur_binV rfl (fun x145 e146 => ?_)
                          have z147 := any_r x137
                          have z148 := any_r x141
                          have t149 := ti_add e146 (by omega) (by omega)
                          refine ur_svIk [some (.inr (.inr (some 69))), some (.inl a1), some (.inl a2), some (.inl a3), some (.inl a4), some (.inl x46), some (.inr (.inl y86)), none, some (.inl x145), u49, u50, u51, u52] rfl rfl ?_
                          refine ur_ldA rfl rfl ?_
                          refine ur_get rfl hc108 (mf_67 hO56 hc108) ?_
                          refine ur_ldI rfl rfl ?_
                          obtain ⟨xs151, hc150, hn152⟩ := hO56.lon (hO56.fix 112 (by decide) rfl)
                          refine ur_aldJV rfl hc150 hn152 (by omega) (fun y154 hx155 => ?_)
                          have g156 := gL_of (j := x145) hc150 hx155
                          refine ur_l2iV rfl (fun x157 e158 => ?_)
                          have t159 : fl h56 112 x145.toInt = x157.toInt := by unfold fl; rw [g156, e158]
                          have t160 : fl h0 112 (60 * a2.toInt + (a3.toInt + 5 * x46.toInt) + 0) = x157.toInt := (fl_k112 hO0 hu56 (by decide) (by omega)).symm.trans t159
                          refine ur_svIk [some (.inr (.inr (some 69))), some (.inl a1), some (.inl a2), some (.inl a3), some (.inl a4), some (.inl x46), some (.inr (.inl y86)), none, some (.inl x145), some (.inl x157), u50, u51, u52] rfl rfl ?_
                          refine ur_ldA rfl rfl ?_
                          refine ur_get rfl hc108 (mf_67 hO56 hc108) ?_
                          refine ur_ldI rfl rfl ?_
                          refine ur_push rfl ?_
                          refine ur_binV rfl (fun x161 e162 => ?_)
                          have z163 := any_r x145
                          have t164 := ti_add e162 (by omega) (by omega)
                          refine ur_aldJV rfl hc150 hn152 (by omega) (fun y165 hx166 => ?_)
                          have g167 := gL_of (j := x161) hc150 hx166
                          refine ur_l2iV rfl (fun x168 e169 => ?_)
                          have t170 : fl h56 112 x161.toInt = x168.toInt := by unfold fl; rw [g167, e169]
                          have t171 : fl h0 112 (60 * a2.toInt + (a3.toInt + 5 * x46.toInt) + 1) = x168.toInt := (fl_k112 hO0 hu56 (by decide) (by omega)).symm.trans t170
                          refine ur_svIk [some (.inr (.inr (some 69))), some (.inl a1), some (.inl a2), some (.inl a3), some (.inl a4), some (.inl x46), some (.inr (.inl y86)), none, some (.inl x145), some (.inl x157), some (.inl x168), u51, u52] rfl rfl ?_
                          refine ur_ldA rfl rfl ?_
                          refine ur_get rfl hc108 (mf_67 hO56 hc108) ?_
                          refine ur_ldI rfl rfl ?_
                          refine ur_push rfl ?_
                          refine ur_binV rfl (fun x172 e173 => ?_)
                          have t174 := ti_add e173 (by omega) (by omega)
                          refine ur_aldJV rfl hc150 hn152 (by omega) (fun y175 hx176 => ?_)
                          have g177 := gL_of (j := x172) hc150 hx176
                          refine ur_l2iV rfl (fun x178 e179 => ?_)
                          have t180 : fl h56 112 x172.toInt = x178.toInt := by unfold fl; rw [g177, e179]
                          have t181 : fl h0 112 (60 * a2.toInt + (a3.toInt + 5 * x46.toInt) + 2) = x178.toInt := (fl_k112 hO0 hu56 (by decide) (by omega)).symm.trans t180
                          refine ur_svIk [some (.inr (.inr (some 69))), some (.inl a1), some (.inl a2), some (.inl a3), some (.inl a4), some (.inl x46), some (.inr (.inl y86)), none, some (.inl x145), some (.inl x157), some (.inl x168), some (.inl x178), u52] rfl rfl ?_
                          refine ur_ldA rfl rfl ?_
                          refine ur_get rfl hc108 (mf_67 hO56 hc108) ?_
                          refine ur_ldI rfl rfl ?_
                          refine ur_push rfl ?_
                          refine ur_binV rfl (fun x182 e183 => ?_)
                          have t184 := ti_add e183 (by omega) (by omega)
                          refine ur_aldJV rfl hc150 hn152 (by omega) (fun y185 hx186 => ?_)
                          have g187 := gL_of (j := x182) hc150 hx186
                          refine ur_l2iV rfl (fun x188 e189 => ?_)
                          have t190 : fl h56 112 x182.toInt = x188.toInt := by unfold fl; rw [g187, e189]
                          have t191 : fl h0 112 (60 * a2.toInt + (a3.toInt + 5 * x46.toInt) + 4) = x188.toInt := (fl_k112 hO0 hu56 (by decide) (by omega)).symm.trans t190
                          refine ur_svIk [some (.inr (.inr (some 69))), some (.inl a1), some (.inl a2), some (.inl a3), some (.inl a4), some (.inl x46), some (.inr (.inl y86)), none, some (.inl x145), some (.inl x157), some (.inl x168), some (.inl x178), some (.inl x188)] rfl rfl ?_
                          refine ur_ldI rfl rfl ?_
                          refine ur_push rfl ?_
                          refine ur_push rfl ?_
                          refine ur_callv rfl rfl (Nat.le_of_ble_eq_true rfl) (Nat.le_of_ble_eq_true rfl) rfl (sp_in _ _ _ _ _) ?_
                          refine ur_eqB rfl (fun c194 => ?_) (fun c194 => ?_)
                          · have t195 := wi_noL c194 l_0 l_9999
                            refine ur_ldI rfl rfl ?_
                            exact ur_ret rfl rfl (hQ _ _ ⟨_, rfl, ⟨fun q => absurd (by omega) q, fun q => by exfalso; omega, fun q => by exfalso; omega, fun _ => ⟨⟨by omega, px57, fun q => by unfold GM FOKd at q; rw [show ((x46.toInt.toNat : Nat) : Int) = x46.toInt by omega] at q; omega⟩, by omega⟩⟩⟩ hO56 hu56 (by omega) px60 px58 (fun j hj => px59 j (by omega)))
                          · have t196 := wi_toL c194 l_0 l_9999
                            refine ur_ldI rfl rfl ?_
                            refine ur_push rfl ?_
                            refine ur_push rfl ?_
                            refine ur_callv rfl rfl (Nat.le_of_ble_eq_true rfl) (Nat.le_of_ble_eq_true rfl) rfl (sp_in _ _ _ _ _) ?_
                            refine ur_eqB rfl (fun c199 => ?_) (fun c199 => ?_)
                            · have t200 := wi_noL c199 l_0 l_9999
                              refine ur_ldI rfl rfl ?_
                              exact ur_ret rfl rfl (hQ _ _ ⟨_, rfl, ⟨fun q => absurd (by omega) q, fun q => by exfalso; omega, fun q => by exfalso; omega, fun _ => ⟨⟨by omega, px57, fun q => by unfold GM FOKd at q; rw [show ((x46.toInt.toNat : Nat) : Int) = x46.toInt by omega] at q; omega⟩, by omega⟩⟩⟩ hO56 hu56 (by omega) px60 px58 (fun j hj => px59 j (by omega)))
                            · have t201 := wi_toL c199 l_0 l_9999
                              refine ur_ldI rfl rfl ?_
                              refine ur_push rfl ?_
                              refine ur_push rfl ?_
                              refine ur_callv rfl rfl (Nat.le_of_ble_eq_true rfl) (Nat.le_of_ble_eq_true rfl) rfl (sp_in _ _ _ _ _) ?_
                              refine ur_eqB rfl (fun c204 => ?_) (fun c204 => ?_)
                              · have t205 := wi_noL c204 l_0 l_9999
                                refine ur_ldI rfl rfl ?_
                                exact ur_ret rfl rfl (hQ _ _ ⟨_, rfl, ⟨fun q => absurd (by omega) q, fun q => by exfalso; omega, fun q => by exfalso; omega, fun _ => ⟨⟨by omega, px57, fun q => by unfold GM FOKd at q; rw [show ((x46.toInt.toNat : Nat) : Int) = x46.toInt by omega] at q; omega⟩, by omega⟩⟩⟩ hO56 hu56 (by omega) px60 px58 (fun j hj => px59 j (by omega)))
                              · have t206 := wi_toL c204 l_0 l_9999
                                refine ur_ldA rfl rfl ?_
                                refine ur_get rfl hc108 (mf_67 hO56 hc108) ?_
                                refine ur_ldI rfl rfl ?_
                                refine ur_push rfl ?_
                                refine ur_binV rfl (fun x207 e208 => ?_)
                                have t209 := ti_add e208 (by omega) (by omega)
                                refine ur_aldJV rfl hc150 hn152 (by omega) (fun y210 hx211 => ?_)
                                have g212 := gL_of (j := x207) hc150 hx211
                                refine ur_l2iV rfl (fun x213 e214 => ?_)
                                have t215 : fl h56 112 x207.toInt = x213.toInt := by unfold fl; rw [g212, e214]
                                have t216 : fl h0 112 (60 * a2.toInt + (a3.toInt + 5 * x46.toInt) + 3) = x213.toInt := (fl_k112 hO0 hu56 (by decide) (by omega)).symm.trans t215
                                refine ur_push rfl ?_
                                refine ur_push rfl ?_
                                refine ur_callv rfl rfl (Nat.le_of_ble_eq_true rfl) (Nat.le_of_ble_eq_true rfl) rfl (sp_in _ _ _ _ _) ?_
                                refine ur_eqB rfl (fun c219 => ?_) (fun c219 => ?_)
                                · have t220 := wi_noL c219 l_0 l_400
                                  refine ur_ldI rfl rfl ?_
                                  exact ur_ret rfl rfl (hQ _ _ ⟨_, rfl, ⟨fun q => absurd (by omega) q, fun q => by exfalso; omega, fun q => by exfalso; omega, fun _ => ⟨⟨by omega, px57, fun q => by unfold GM FOKd at q; rw [show ((x46.toInt.toNat : Nat) : Int) = x46.toInt by omega] at q; omega⟩, by omega⟩⟩⟩ hO56 hu56 (by omega) px60 px58 (fun j hj => px59 j (by omega)))
                                · have t221 := wi_toL c219 l_0 l_400
                                  refine ur_ldI rfl rfl ?_
                                  refine ur_if1 rfl (fun c222 => ?_) (fun c222 => ?_)
                                  · have t223 := eq_to c222
                                    refine ur_ldA rfl rfl ?_
                                    refine ur_ldI rfl rfl ?_
                                    refine ur_ldI rfl rfl ?_
                                    refine ur_ldI rfl rfl ?_
                                    refine ur_ldI rfl rfl ?_
                                    refine ur_ldI rfl rfl ?_
                                    refine ur_push rfl ?_
                                    refine ur_ldA rfl rfl ?_
                                    refine ur_get rfl hc108 (mf_67 hO56 hc108) ?_
                                    refine ur_ldI rfl rfl ?_
                                    refine ur_push rfl ?_
                                    refine ur_binV rfl (fun x224 e225 => ?_)
                                    have t226 := ti_add e225 (by omega) (by omega)
                                    refine ur_aldJV rfl hc150 hn152 (by omega) (fun y227 hx228 => ?_)
                                    have g229 := gL_of (j := x224) hc150 hx228
                                    refine ur_l2iV rfl (fun x230 e231 => ?_)
                                    have t232 : fl h56 112 x224.toInt = x230.toInt := by unfold fl; rw [g229, e231]
                                    have t233 : fl h0 112 (60 * a2.toInt + (a3.toInt + 5 * x46.toInt) + 3) = x230.toInt := (fl_k112 hO0 hu56 (by decide) (by omega)).symm.trans t232
                                    refine ur_push rfl ?_
                                    refine ur_inl rfl (rcv_of hc108) (Nat.le_of_ble_eq_true rfl) (Nat.le_of_ble_eq_true rfl) (se_X12_newWord hO56 px60 _ (by show 0 ≤ x188.toInt ∧ x188.toInt ≤ 7; omega) _ (by show 0 ≤ a1.toInt ∧ a1.toInt ≤ 8; omega) _ _ _ _ (by show -1 ≤ ((-1) : Int32).toInt ∧ ((-1) : Int32).toInt ≤ 19; omega) _ _ (by omega) (by omega) (by omega) (by omega) (fun w234 h239 hr235 hO239 hv239 hp236 hp237 hp238 => ?_))
                                    have hu239 := hv239
                                    obtain ⟨x240, rfl, t241⟩ := hr235
                                    show uRun _ (uCall Mt _) _ 277 (_, [(.inl x240)], _, _, _)
                                    refine ur_pop rfl rfl ?_
                                    refine ur_incV (fun z => [some (.inr (.inr (some 69))), some (.inl a1), some (.inl a2), some (.inl a3), some (.inl a4), some (.inl z), some (.inr (.inl y86)), none, some (.inl x145), some (.inl x157), some (.inl x168), some (.inl x178), some (.inl x188)]) rfl rfl (fun _ => rfl) (fun x242 e243 => ?_)
                                    have t244 := ti_add e243 (by omega) (by omega)
                                    refine ur_go rfl ?_
                                    obtain ⟨fs245, hc246⟩ := hO239.mod
                                    obtain ⟨f247, p248, t249⟩ := mf_38 hO239 hc246
                                    have t250 := fI_of hc246 p248
                                    have z251 := any_r x242
                                    obtain ⟨m252, e256, w254, w255⟩ := hp238
                                    have k253 := e256.k hO56 (by omega)
                                    exact ih55 x242 _ _ _ _ _ _ _ hO239 (hu56.tr hu239) (by omega) (fun j hj => by by_cases q : (j : Int) < x46.toInt; exact px57 j q; have e : (j : Int) = x46.toInt := (by omega); unfold GM FOKd; rw [e]; omega) (px58.tr k253.1 (by omega)) (fun j hj => by by_cases q : (j : Int) < x46.toInt; exact (px59 j q).k k253.1 (by omega) (by omega); have e : (j : Int) = x46.toInt := (by omega); exact k253.2.c (by omega) (by rw [e]; exact t191) rfl (by decide) (by rw [e]; exact t233) (by rw [e]; exact t160) (by rw [e]; exact t171) (by rw [e]; exact t181) (w254 (by omega)).symm) hp237 (by omega)
                                  · have t257 := eq_no c222
                                    refine ur_ldI rfl rfl ?_
                                    refine ur_push rfl ?_
                                    refine ur_if2 rfl (fun c258 => ?_) (fun c258 => ?_)
                                    · have t259 := eq_to c258
                                      refine ur_ldA rfl rfl ?_
                                      refine ur_ldI rfl rfl ?_
                                      refine ur_ldI rfl rfl ?_
                                      refine ur_ldI rfl rfl ?_
                                      refine ur_ldI rfl rfl ?_
                                      refine ur_ldI rfl rfl ?_
                                      refine ur_push rfl ?_
                                      refine ur_ldA rfl rfl ?_
                                      refine ur_get rfl hc108 (mf_67 hO56 hc108) ?_
                                      refine ur_ldI rfl rfl ?_
                                      refine ur_push rfl ?_
                                      refine ur_binV rfl (fun x260 e261 => ?_)
                                      have t262 := ti_add e261 (by omega) (by omega)
                                      refine ur_aldJV rfl hc150 hn152 (by omega) (fun y263 hx264 => ?_)
                                      have g265 := gL_of (j := x260) hc150 hx264
                                      refine ur_l2iV rfl (fun x266 e267 => ?_)
                                      have t268 : fl h56 112 x260.toInt = x266.toInt := by unfold fl; rw [g265, e267]
                                      have t269 : fl h0 112 (60 * a2.toInt + (a3.toInt + 5 * x46.toInt) + 3) = x266.toInt := (fl_k112 hO0 hu56 (by decide) (by omega)).symm.trans t268
                                      refine ur_push rfl ?_
                                      refine ur_inl rfl (rcv_of hc108) (Nat.le_of_ble_eq_true rfl) (Nat.le_of_ble_eq_true rfl) (se_X12_newWord hO56 px60 _ (by show 0 ≤ x188.toInt ∧ x188.toInt ≤ 7; omega) _ (by show 0 ≤ a1.toInt ∧ a1.toInt ≤ 8; omega) _ _ _ _ (by show -1 ≤ ((-1) : Int32).toInt ∧ ((-1) : Int32).toInt ≤ 19; omega) _ _ (by omega) (by omega) (by omega) (by omega) (fun w270 h275 hr271 hO275 hv275 hp272 hp273 hp274 => ?_))
                                      have hu275 := hv275
                                      obtain ⟨x276, rfl, t277⟩ := hr271
                                      show uRun _ (uCall Mt _) _ 277 (_, [(.inl x276)], _, _, _)
                                      refine ur_pop rfl rfl ?_
                                      refine ur_incV (fun z => [some (.inr (.inr (some 69))), some (.inl a1), some (.inl a2), some (.inl a3), some (.inl a4), some (.inl z), some (.inr (.inl y86)), none, some (.inl x145), some (.inl x157), some (.inl x168), some (.inl x178), some (.inl x188)]) rfl rfl (fun _ => rfl) (fun x278 e279 => ?_)
                                      have t280 := ti_add e279 (by omega) (by omega)
                                      refine ur_go rfl ?_
                                      obtain ⟨fs281, hc282⟩ := hO275.mod
                                      obtain ⟨f283, p284, t285⟩ := mf_38 hO275 hc282
                                      have t286 := fI_of hc282 p284
                                      have z287 := any_r x278
                                      obtain ⟨m288, e292, w290, w291⟩ := hp274
                                      have k289 := e292.k hO56 (by omega)
                                      exact ih55 x278 _ _ _ _ _ _ _ hO275 (hu56.tr hu275) (by omega) (fun j hj => by by_cases q : (j : Int) < x46.toInt; exact px57 j q; have e : (j : Int) = x46.toInt := (by omega); unfold GM FOKd; rw [e]; omega) (px58.tr k289.1 (by omega)) (fun j hj => by by_cases q : (j : Int) < x46.toInt; exact (px59 j q).k k289.1 (by omega) (by omega); have e : (j : Int) = x46.toInt := (by omega); exact k289.2.c (by omega) (by rw [e]; exact t191) rfl (by decide) (by rw [e]; exact t269) (by rw [e]; exact t160) (by rw [e]; exact t171) (by rw [e]; exact t181) (w290 (by omega)).symm) hp273 (by omega)
                                    · have t293 := eq_no c258
                                      refine ur_ldI rfl rfl ?_
                                      refine ur_push rfl ?_
                                      refine ur_if2 rfl (fun c294 => ?_) (fun c294 => ?_)
                                      · have t295 := eq_to c294
                                        refine ur_ldA rfl rfl ?_
                                        refine ur_ldI rfl rfl ?_
                                        refine ur_ldI rfl rfl ?_
                                        refine ur_ldI rfl rfl ?_
                                        refine ur_ldI rfl rfl ?_
                                        refine ur_ldI rfl rfl ?_
                                        refine ur_push rfl ?_
                                        refine ur_ldA rfl rfl ?_
                                        refine ur_get rfl hc108 (mf_67 hO56 hc108) ?_
                                        refine ur_ldI rfl rfl ?_
                                        refine ur_push rfl ?_
                                        refine ur_binV rfl (fun x296 e297 => ?_)
                                        have t298 := ti_add e297 (by omega) (by omega)
                                        refine ur_aldJV rfl hc150 hn152 (by omega) (fun y299 hx300 => ?_)
                                        have g301 := gL_of (j := x296) hc150 hx300
                                        refine ur_l2iV rfl (fun x302 e303 => ?_)
                                        have t304 : fl h56 112 x296.toInt = x302.toInt := by unfold fl; rw [g301, e303]
                                        have t305 : fl h0 112 (60 * a2.toInt + (a3.toInt + 5 * x46.toInt) + 3) = x302.toInt := (fl_k112 hO0 hu56 (by decide) (by omega)).symm.trans t304
                                        refine ur_push rfl ?_
                                        refine ur_inl rfl (rcv_of hc108) (Nat.le_of_ble_eq_true rfl) (Nat.le_of_ble_eq_true rfl) (se_X12_newWord hO56 px60 _ (by show 0 ≤ x188.toInt ∧ x188.toInt ≤ 7; omega) _ (by show 0 ≤ a1.toInt ∧ a1.toInt ≤ 8; omega) _ _ _ _ (by show -1 ≤ ((-1) : Int32).toInt ∧ ((-1) : Int32).toInt ≤ 19; omega) _ _ (by omega) (by omega) (by omega) (by omega) (fun w306 h311 hr307 hO311 hv311 hp308 hp309 hp310 => ?_))
                                        have hu311 := hv311
                                        obtain ⟨x312, rfl, t313⟩ := hr307
                                        show uRun _ (uCall Mt _) _ 277 (_, [(.inl x312)], _, _, _)
                                        refine ur_pop rfl rfl ?_
                                        refine ur_incV (fun z => [some (.inr (.inr (some 69))), some (.inl a1), some (.inl a2), some (.inl a3), some (.inl a4), some (.inl z), some (.inr (.inl y86)), none, some (.inl x145), some (.inl x157), some (.inl x168), some (.inl x178), some (.inl x188)]) rfl rfl (fun _ => rfl) (fun x314 e315 => ?_)
                                        have t316 := ti_add e315 (by omega) (by omega)
                                        refine ur_go rfl ?_
                                        obtain ⟨fs317, hc318⟩ := hO311.mod
                                        obtain ⟨f319, p320, t321⟩ := mf_38 hO311 hc318
                                        have t322 := fI_of hc318 p320
                                        have z323 := any_r x314
                                        obtain ⟨m324, e328, w326, w327⟩ := hp310
                                        have k325 := e328.k hO56 (by omega)
                                        exact ih55 x314 _ _ _ _ _ _ _ hO311 (hu56.tr hu311) (by omega) (fun j hj => by by_cases q : (j : Int) < x46.toInt; exact px57 j q; have e : (j : Int) = x46.toInt := (by omega); unfold GM FOKd; rw [e]; omega) (px58.tr k325.1 (by omega)) (fun j hj => by by_cases q : (j : Int) < x46.toInt; exact (px59 j q).k k325.1 (by omega) (by omega); have e : (j : Int) = x46.toInt := (by omega); exact k325.2.c (by omega) (by rw [e]; exact t191) rfl (by decide) (by rw [e]; exact t305) (by rw [e]; exact t160) (by rw [e]; exact t171) (by rw [e]; exact t181) (w326 (by omega)).symm) hp309 (by omega)
                                      · have t329 := eq_no c294
                                        refine ur_ldI rfl rfl ?_
                                        exact ur_ret rfl rfl (hQ _ _ ⟨_, rfl, ⟨fun q => absurd (by omega) q, fun q => by exfalso; omega, fun q => by exfalso; omega, fun _ => ⟨⟨by omega, px57, fun q => by unfold GM FOKd at q; rw [show ((x46.toInt.toNat : Nat) : Int) = x46.toInt by omega] at q; omega⟩, by omega⟩⟩⟩ hO56 hu56 (by omega) px60 px58 (fun j hj => px59 j (by omega)))
                        · have t330 := ne_no c135
                          refine ur_ldI rfl rfl ?_
                          exact ur_ret rfl rfl (hQ _ _ ⟨_, rfl, ⟨fun q => absurd (by omega) q, fun q => by exfalso; omega, fun q => by exfalso; omega, fun _ => ⟨⟨by omega, px57, fun q => by unfold GM FOKd at q; rw [show ((x46.toInt.toNat : Nat) : Int) = x46.toInt by omega] at q; omega⟩, by omega⟩⟩⟩ hO56 hu56 (by omega) px60 px58 (fun j hj => px59 j (by omega)))
              exact L53 _ 0 (none) (none) (none) (none) (none) (none) _ hO0 un.rf (by omega) (fun j hj => by exfalso; omega) KWm.rf (fun j hj => by exfalso; omega) hX0 (Nat.lt_succ_self _)
            · have t331 := ne_no c44
              exfalso
              omega
          · have t332 := eq_no c40
            refine ur_push rfl ?_
            exact ur_ret rfl rfl (hQ _ _ ⟨_, rfl, ⟨fun q => by omega, fun q => by omega, fun q => by omega, fun q => by exfalso; omega⟩⟩ hO0 un.rf (by omega) hX0 KWm.rf (fun j hj => by exfalso; omega))
      · have t333 := wi_noL c20 l_1 l_12
        refine ur_push rfl ?_
        exact ur_ret rfl rfl (hQ _ _ ⟨_, rfl, ⟨fun q => by omega, fun q => by omega, fun q => by omega, fun q => by exfalso; omega⟩⟩ hO0 un.rf (by omega) hX0 KWm.rf (fun j hj => by exfalso; omega))
end OWM
