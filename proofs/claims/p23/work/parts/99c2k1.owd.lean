/-! WHAT A WORD HOLDS, printed by program but for its heads -/
section OWD
theorem fA_un {W : List Nat} {h h' : aH} {z k : Nat} (hO : OK h) (g : un W h h') (gz : 114 ≤ z) (t : tg h z = (110, 13)) (hk : k < 10) (hw : 22000 + k ∉ W) : fA h' z k = fA h z k := by
  obtain ⟨fs, c1, e1, -⟩ := hO.obj (ci := 10) (n := 13) t (by decide)
  obtain ⟨c', d1, d2, d3⟩ := g.1 z _ c1
  match c', d1, d3 with
  | .inl (ci, gs), d1, d3 =>
    have d3 : ∀ k : Nat, scr 10 k = true ∨ 1000 + 100 * wid z (100 + 10, fs.length) + k ∈ W ∨ fs[k]? = gs[k]? := d3
    rw [fA_of c1, fA_of d1]
    rcases d3 k with q | q | q
    · exact absurd q (by rw [(show ∀ k, k < 10 → scr 10 k = false by decide) k hk]; decide)
    · rw [show wid z (100 + 10, fs.length) = 210 by rw [e1]; exact wid_w gz] at q
      exact absurd q (by rw [show 1000 + 100 * 210 + k = 22000 + k by omega]; exact hw)
    · exact q.symm
/-- the words but one stay as they are -/
def OWK (h h' : aH) (x : Nat) : Prop := ∀ z : Nat, 114 ≤ z → tg h z = (110, 13) → z ≠ x → tg h' z = (110, 13) ∧ ∀ k, k < 10 → fA h' z k = fA h z k
theorem OWK.rf {h : aH} {x : Nat} : OWK h h x := fun _ _ t _ => ⟨t, fun _ _ => rfl⟩
theorem OWK.tr {a b c : aH} {x : Nat} (g : OWK a b x) (k : OWK b c x) : OWK a c x := fun z h1 h2 h3 => by
  obtain ⟨t, e⟩ := g z h1 h2 h3
  obtain ⟨t2, e2⟩ := k z h1 t h3
  exact ⟨t2, fun i hi => (e2 i hi).trans (e i hi)⟩
theorem OWK.st {h h' : aH} {a x : Nat} (en : ∀ b, b ≠ a → h'[b]? = h[b]?) (ha : a < 114 ∨ a = x) : OWK h h' x := fun z h1 h2 h3 => by
  have e := en z (by omega)
  refine ⟨?_, fun k _ => fA_c e k⟩
  unfold tg
  rw [e]
  exact h2
theorem OWK.un {W : List Nat} {h h' : aH} {x : Nat} (hO : OK h) (g : un W h h') (hw : ∀ k, k < 10 → 22000 + k ∉ W) : OWK h h' x := fun z h1 h2 h3 => ⟨g.tm h2 (by decide), fun k hk => fA_un hO g h1 h2 hk (hw k hk)⟩
theorem arR_c {h h' : aH} {a : Nat} (e : h'[a]? = h[a]?) : arR h' a = arR h a := by
  unfold arR
  rw [e]
theorem arR_u {W : List Nat} {h h' : aH} (hO : OK h) (g : un W h h') (h1 : 16 ∉ W) : arR h' 16 = arR h 16 := by
  obtain ⟨x, hc, hn, hs⟩ := hO.arr (hO.fix 16 (by decide) rfl) (by decide)
  obtain ⟨xs, rfl, _⟩ : ∃ xs, x = .inr (.inr xs) ∧ _ := hs
  rw [arR_of hc, arR_of (g.ka hc hn (by decide) (by decide) (wid_f (by decide)) h1)]
/-- the word at a place -/
def wz (h : aH) (i : Int) (z : Nat) : Prop := (arR h 16)[i.toNat]? = some (some z)
theorem wz_u {h : aH} {i : Int} {z z' : Nat} (a : wz h i z) (b : wz h i z') : z = z' := by
  unfold wz at a b
  rw [a] at b
  cases b
  rfl
theorem wz_c {h h' : aH} {i : Int} {z : Nat} (e : arR h' 16 = arR h 16) (w : wz h' i z) : wz h i z := by
  unfold wz at w ⊢
  rw [← e]
  exact w
theorem wz_ok {h : aH} (hO : OK h) {i : Int} {z : Nat} (w : wz h i z) : 114 ≤ z ∧ tg h z = (110, 13) := by
  obtain ⟨xs, hc, hn, he⟩ := hO.wor (hO.fix 16 (by decide) rfl)
  unfold wz at w
  rw [arR_of hc] at w
  exact he _ z w
/-- the root of a word -/
def rtz (h : aH) (a z : Nat) : Prop := (fA h a 9 = some (.inr (.inr none)) ∧ z = a) ∨ fA h a 9 = some (.inr (.inr (some z)))
theorem rtz_c {h h' : aH} {a z : Nat} (e : fA h' a 9 = fA h a 9) (r : rtz h' a z) : rtz h a z := by
  unfold rtz at r ⊢
  rw [← e]
  exact r
theorem OWK.old {h h' : aH} {x z : Nat} (o : OWK h h' x) (hx : x = h.length) (t : 114 ≤ z ∧ tg h z = (110, 13)) : tg h' z = (110, 13) ∧ ∀ k, k < 10 → fA h' z k = fA h z k := by
  refine o z t.1 t.2 (fun e => ?_)
  have q := t.2
  unfold tg at q
  rw [List.getElem?_eq_none (by omega)] at q
  exact absurd (congrArg Prod.fst q) (by decide)
/-- the words that are there stay as they are -/
def KWc (h h' : aH) : Prop := ∀ (i : Int) (z : Nat), 0 ≤ i → i < fO h 15 1 → wz h i z → wz h' i z ∧ ∀ k, k < 10 → fA h' z k = fA h z k
theorem KWc.rf {h : aH} : KWc h h := fun _ _ _ _ w => ⟨w, fun _ _ => rfl⟩
theorem KWc.tr {a b c : aH} (g : KWc a b) (k : KWc b c) (l : fO a 15 1 ≤ fO b 15 1) : KWc a c := fun i z h0 h1 w => by
  obtain ⟨w1, e1⟩ := g i z h0 h1 w
  obtain ⟨w2, e2⟩ := k i z h0 (by omega) w1
  exact ⟨w2, fun j hj => (e2 j hj).trans (e1 j hj)⟩
theorem KWc.un {W : List Nat} {h h' : aH} (hO : OK h) (g : un W h h') (h1 : 16 ∉ W) (hw : ∀ k, k < 10 → 22000 + k ∉ W) : KWc h h' := fun i z _ _ w => by
  have t := wz_ok hO w
  exact ⟨wz_c (arR_u hO g h1).symm w, fun k hk => fA_un hO g t.1 t.2 hk (hw k hk)⟩
theorem arR16_len {h : aH} (hO : OK h) : (arR h 16).length = 150 := by
  obtain ⟨xs, hc, hn, he⟩ := hO.wor (hO.fix 16 (by decide) rfl)
  rw [arR_of hc]
  exact hn
theorem KWc.push {h h' : aH} {x : Nat} (hO : OK h) (o : OWK h h' x) (hx : x = h.length) (a : arR h' 16 = (arR h 16).set (fO h 15 1).toNat (some x)) (h0 : 0 ≤ fO h 15 1 ∧ fO h 15 1 ≤ 149) : KWc h h' ∧ wz h' (fO h 15 1) x := by
  have hl := arR16_len hO
  refine ⟨fun i z i0 i1 w => ?_, ?_⟩
  · have t := wz_ok hO w
    refine ⟨?_, (o.old hx t).2⟩
    unfold wz at w ⊢
    rw [a, List.getElem?_set_ne (by omega)]
    exact w
  · unfold wz
    rw [a, List.getElem?_set_self (by omega)]
/-- a word with its fields -/
def NWz (h : aH) (i : Int) (z : Nat) (ki pe re sl y m d mo : Int) : Prop := wz h i z ∧ fO h z 0 = i ∧ fO h z 1 = ki ∧ fO h z 2 = pe ∧ fO h z 3 = re ∧ fO h z 4 = sl ∧ fO h z 5 = y ∧ fO h z 6 = m ∧ fO h z 7 = d ∧ fO h z 8 = mo
theorem NWz.k {h h' : aH} {i : Int} {z : Nat} {ki pe re sl y m d mo : Int} (g : NWz h i z ki pe re sl y m d mo) (k : KWc h h') (h0 : 0 ≤ i) (h1 : i < fO h 15 1) : NWz h' i z ki pe re sl y m d mo ∧ fA h' z 9 = fA h z 9 := by
  obtain ⟨w, e⟩ := g
  obtain ⟨w', f⟩ := k i z h0 h1 w
  refine ⟨⟨w', ?_⟩, f 9 (by decide)⟩
  rw [fO_eA (f 0 (by decide)), fO_eA (f 1 (by decide)), fO_eA (f 2 (by decide)), fO_eA (f 3 (by decide)), fO_eA (f 4 (by decide)), fO_eA (f 5 (by decide)), fO_eA (f 6 (by decide)), fO_eA (f 7 (by decide)), fO_eA (f 8 (by decide))]
  exact e
/-- one of two by a condition, and a condition, in words that omega doesn't take apart -/
def ifG (G A B : Prop) : Prop := (G → A) ∧ (¬ G → B)
def imG (G A : Prop) : Prop := G → A
theorem mo_G {a b : aH} {z : Nat} {k kd : Int} {c v : Int32} (q : ifG (k = 0 ∨ k = 4 ∨ k = 5) (fA b z 8 = fA a z 8) (fA b z 8 = some (.inl c))) (e : k = kd) (f : fA a z 8 = some (.inl v)) (hv : v.toInt = -1) : ((kd = 0 ∨ kd = 4 ∨ kd = 5) ∧ fO b z 8 = -1) ∨ (¬ (kd = 0 ∨ kd = 4 ∨ kd = 5) ∧ fO b z 8 = c.toInt) := by
  subst e
  by_cases g : k = 0 ∨ k = 4 ∨ k = 5
  · exact Or.inl ⟨g, by rw [fO_fA ((q.1 g).trans f)]; exact hv⟩
  · exact Or.inr ⟨g, fO_fA (q.2 g)⟩
theorem cr_G {h0 a b : aH} {z : Nat} {k kd i : Int} (q : ifG (k = 3) (∃ zs r, wz a i zs ∧ rtz a zs r ∧ fA b z 9 = some (.inr (.inr (some r)))) (fA b z 9 = fA a z 9)) (e : k = kd) (f : fA a z 9 = some (.inr (.inr none))) (ea : arR a 16 = arR h0 16) (ow : OWK h0 a z) (hO : OK h0) (hz : z = h0.length) : (kd ≠ 3 → fA b z 9 = some (.inr (.inr none))) ∧ (kd = 3 → ∃ zs r, wz h0 i zs ∧ rtz h0 zs r ∧ fA b z 9 = some (.inr (.inr (some r)))) := by
  subst e
  refine ⟨fun g => (q.2 g).trans f, fun g => ?_⟩
  obtain ⟨zs, r, w, qq, e⟩ := q.1 g
  have w0 := wz_c ea w
  exact ⟨zs, r, w0, rtz_c ((ow.old hz (wz_ok hO w0)).2 9 (by decide)) qq, e⟩
set_option maxRecDepth 20000 in
set_option maxHeartbeats 4000000 in
theorem se_X1_wordAt {d kc ks : Nat} {h0 : aH} {Q : Option aV → aH → Prop} (hO0 : OK h0) (a1 : Int32) (pre0 : NA h0) (hQ : ∀ r, (∃ o, r = some (.inr (.inr o)) ∧ (∀ z, o = some z → 114 ≤ z ∧ tg h0 z = (110, 13)) ∧ (o = none → ¬ (0 ≤ a1.toInt ∧ a1.toInt < fO h0 15 1)) ∧ (∀ z, o = some z → (0 ≤ a1.toInt ∧ a1.toInt < fO h0 15 1) ∧ wz h0 a1.toInt z)) → Q r h0) : uCall Mt (d + 1) 8 [(.inr (.inr (some 15))), (.inl a1)] h0 kc ks Q := by
  have l_0 : ((0) : Int32).toInt = 0 := by decide
  refine uc_ink [some (.inr (.inr (some 15))), some (.inl a1)] mt_8 (Nat.le_of_ble_eq_true rfl) rfl ?_
  obtain ⟨f2, f3, f4, f5, hc1, k6⟩ := ok_15 hO0
  have t7 := fO_of (k := 1) hc1 rfl
  refine ur_ldI rfl rfl ?_
  refine ur_if1 rfl (fun c8 => ?_) (fun c8 => ?_)
  · have t9 := lt_to c8
    refine ur_push rfl ?_
    exact ur_ret rfl rfl (hQ _ ⟨_, rfl, (fun _ e => nomatch e), (fun _ => by omega), (fun _ e => nomatch e)⟩ )
  · have t10 := lt_no c8
    refine ur_ldI rfl rfl ?_
    refine ur_ldA rfl rfl ?_
    refine ur_get rfl hc1 rfl ?_
    have z11 := any_r a1
    have z12 := any_r f2
    refine ur_if2 rfl (fun c13 => ?_) (fun c13 => ?_)
    · have t14 := le_to c13
      refine ur_push rfl ?_
      exact ur_ret rfl rfl (hQ _ ⟨_, rfl, (fun _ e => nomatch e), (fun _ => by omega), (fun _ e => nomatch e)⟩ )
    · have t15 := le_no c13
      refine ur_ldA rfl rfl ?_
      refine ur_get rfl hc1 rfl ?_
      refine ur_ldI rfl rfl ?_
      obtain ⟨xs17, hc16, hn18, he19⟩ := hO0.wor (hO0.fix 16 (by decide) rfl)
      refine ur_aldAV rfl hc16 hn18 (by omega) (fun o20 hx21 => ?_)
      have k22 : ∀ z, o20 = some z → 114 ≤ z ∧ tg h0 z = (110, 13) := fun z e => he19 _ z (by rw [hx21, e])
      refine ur_go rfl ?_
      have t23 : o20 = none → ¬ (0 ≤ a1.toInt ∧ a1.toInt < fO h0 15 1) := fun e => absurd e (NA_some pre0 hc16 hx21 (by omega) (by omega))
      have t24 : ∀ z, o20 = some z → (0 ≤ a1.toInt ∧ a1.toInt < fO h0 15 1) ∧ wz h0 a1.toInt z := fun z e => ⟨by omega, by unfold wz; rw [arR_of hc16, hx21, e]⟩
      exact ur_ret rfl rfl (hQ _ ⟨_, rfl, k22, (fun e => by have e := t23 e; omega), t24⟩ )

set_option maxRecDepth 20000 in
set_option maxHeartbeats 4000000 in
theorem sd_X10_rootWord {d kc ks : Nat} {h0 : aH} {Q : Option aV → aH → Prop} (hO0 : OK h0) {a0 : Nat} (g0 : 114 ≤ a0) (t0 : tg h0 a0 = (110, 13)) (hQ : ∀ r, (∃ z, r = some (.inr (.inr (some z))) ∧ (114 ≤ z ∧ tg h0 z = (110, 13)) ∧ (rtz h0 a0 z)) → Q r h0) : uCall Mt (d + 1) 117 [(.inr (.inr (some a0)))] h0 kc ks Q := by
  refine uc_ink [some (.inr (.inr (some a0)))] mt_117 (Nat.le_of_ble_eq_true rfl) rfl ?_
  refine ur_ldA rfl rfl ?_
  obtain ⟨g17, f2, f3, f4, f5, f6, f7, f8, f9, f10, o14, f11, f12, f13, hc1, k15, k16⟩ := hO0.word t0
  refine ur_get rfl hc1 rfl ?_
  cases o14 with
  | none =>
    refine ur_nulN rfl ?_
    refine ur_ldA rfl rfl ?_
    refine ur_go rfl ?_
    exact ur_ret rfl rfl (hQ _ ⟨_, rfl, ⟨g17, t0⟩, Or.inl ⟨fA_of (k := 9) hc1, rfl⟩⟩ )
  | some r18 =>
    refine ur_nulS rfl ?_
    have k19 := k15 _ rfl
    refine ur_ldA rfl rfl ?_
    refine ur_get rfl hc1 rfl ?_
    exact ur_ret rfl rfl (hQ _ ⟨_, rfl, ⟨k19.1, k19.2⟩, Or.inr (fA_of (k := 9) hc1)⟩ )

def NWR (h0 h : aH) (p i w pe : Int) (j : Nat) : Prop := ∃ z, NWz h (w + (j : Int)) z (fl h0 (63 + p.toNat) (i + 5 * (j : Int) + 4)) pe (-1) (fl h0 (63 + p.toNat) (i + 5 * (j : Int) + 3)) (fl h0 (63 + p.toNat) (i + 5 * (j : Int) + 0)) (fl h0 (63 + p.toNat) (i + 5 * (j : Int) + 1)) (fl h0 (63 + p.toNat) (i + 5 * (j : Int) + 2)) (-1) ∧ fA h z 9 = some (.inr (.inr none))
theorem NWR.k {h0 h h' : aH} {p i w pe : Int} {j : Nat} (g : NWR h0 h p i w pe j) (k : KWc h h') (w0 : 0 ≤ w) (l : w + (j : Int) < fO h 15 1) : NWR h0 h' p i w pe j := by
  obtain ⟨z, a, e⟩ := g
  obtain ⟨a', e'⟩ := a.k k (by omega) l
  exact ⟨z, a', e'.trans e⟩
theorem NWz.c {h : aH} {i i' : Int} {z : Nat} {ki pe re sl y m d mo ki' pe' re' sl' y' m' d' mo' : Int} (g : NWz h i z ki pe re sl y m d mo) (e0 : i' = i) (e1 : ki' = ki) (e2 : pe' = pe) (e3 : re' = re) (e4 : sl' = sl) (e5 : y' = y) (e6 : m' = m) (e7 : d' = d) (e8 : mo' = mo) : NWz h i' z ki' pe' re' sl' y' m' d' mo' := by
  subst e0 e1 e2 e3 e4 e5 e6 e7 e8
  exact g
end OWD
