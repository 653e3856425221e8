/-! WHAT A WORD HOLDS, printed by program but for its heads -/
section OWD
theorem fA_un {W : List Nat} {h h' : aH} {z k : Nat} (hO : OK h) (g : un W h h') (gz : 114 ≤ z) (t : tg h z = (110, 13)) (hk : k < 10) (hw : 22000 + k ∉ W) : fA h' z k = fA h z k := by
  obtain ⟨fs, c1, e1, -⟩ := hO.obj (ci := 10) (n := 13) t (by decide)
  obtain ⟨c', d1, d2, d3⟩ := g.1 z _ c1
  match c', d1, d3 with
  | .inl (ci, gs), d1, d3 =>
    have d3 : ∀ k : Nat, scr 10 k = true ∨ 1000 + 100 * wid z (100 + 10, fs.length) + k ∈ W ∨ fs[k]? = gs[k]? := d3
    rw [fA_of c1, fA_of d1]
    rcases d3 k with q | q | q
    · exact absurd q (by rw [(show ∀ k, k < 10 → scr 10 k = false by decide) k hk]; decide)
    · rw [show wid z (100 + 10, fs.length) = 210 by rw [e1]; exact wid_w gz] at q
      exact absurd q (by rw [show 1000 + 100 * 210 + k = 22000 + k by omega]; exact hw)
    · exact q.symm
/-- the words but one stay as they are -/
def OWK (h h' : aH) (x : Nat) : Prop := ∀ z : Nat, 114 ≤ z → tg h z = (110, 13) → z ≠ x → tg h' z = (110, 13) ∧ ∀ k, k < 10 → fA h' z k = fA h z k
theorem OWK.rf {h : aH} {x : Nat} : OWK h h x := fun _ _ t _ => ⟨t, fun _ _ => rfl⟩
theorem OWK.tr {a b c : aH} {x : Nat} (g : OWK a b x) (k : OWK b c x) : OWK a c x := fun z h1 h2 h3 => by
  obtain ⟨t, e⟩ := g z h1 h2 h3
  obtain ⟨t2, e2⟩ := k z h1 t h3
  exact ⟨t2, fun i hi => (e2 i hi).trans (e i hi)⟩
theorem OWK.st {h h' : aH} {a x : Nat} (en : ∀ b, b ≠ a → h'[b]? = h[b]?) (ha : a < 114 ∨ a = x) : OWK h h' x := fun z h1 h2 h3 => by
  have e := en z (by omega)
  refine ⟨?_, fun k _ => fA_c e k⟩
  unfold tg
  rw [e]
  exact h2
theorem OWK.un {W : List Nat} {h h' : aH} {x : Nat} (hO : OK h) (g : un W h h') (hw : ∀ k, k < 10 → 22000 + k ∉ W) : OWK h h' x := fun z h1 h2 h3 => ⟨g.tm h2 (by decide), fun k hk => fA_un hO g h1 h2 hk (hw k hk)⟩
theorem arR_c {h h' : aH} {a : Nat} (e : h'[a]? = h[a]?) : arR h' a = arR h a := by
  unfold arR
  rw [e]
theorem arR_u {W : List Nat} {h h' : aH} (hO : OK h) (g : un W h h') (h1 : 16 ∉ W) : arR h' 16 = arR h 16 := by
  obtain ⟨x, hc, hn, hs⟩ := hO.arr (hO.fix 16 (by decide) rfl) (by decide)
  obtain ⟨xs, rfl, _⟩ : ∃ xs, x = .inr (.inr xs) ∧ _ := hs
  rw [arR_of hc, arR_of (g.ka hc hn (by decide) (by decide) (wid_f (by decide)) h1)]
/-- the word at a place -/
def wz (h : aH) (i : Int) (z : Nat) : Prop := (arR h 16)[i.toNat]? = some (some z)
theorem wz_u {h : aH} {i : Int} {z z' : Nat} (a : wz h i z) (b : wz h i z') : z = z' := by
  unfold wz at a b
  rw [a] at b
  cases b
  rfl
theorem wz_c {h h' : aH} {i : Int} {z : Nat} (e : arR h' 16 = arR h 16) (w : wz h' i z) : wz h i z := by
  unfold wz at w ⊢
  rw [← e]
  exact w
theorem wz_ok {h : aH} (hO : OK h) {i : Int} {z : Nat} (w : wz h i z) : 114 ≤ z ∧ tg h z = (110, 13) := by
  obtain ⟨xs, hc, hn, he⟩ := hO.wor (hO.fix 16 (by decide) rfl)
  unfold wz at w
  rw [arR_of hc] at w
  exact he _ z w
/-- the root of a word -/
def rtz (h : aH) (a z : Nat) : Prop := (fA h a 9 = some (.inr (.inr none)) ∧ z = a) ∨ fA h a 9 = some (.inr (.inr (some z)))
theorem rtz_c {h h' : aH} {a z : Nat} (e : fA h' a 9 = fA h a 9) (r : rtz h' a z) : rtz h a z := by
  unfold rtz at r ⊢
  rw [← e]
  exact r
theorem rtz_u {h : aH} {a z z' : Nat} (r : rtz h a z) (q : rtz h a z') : z = z' := by
  rcases r with ⟨r1, r2⟩ | r
  · rcases q with ⟨q1, q2⟩ | q
    · rw [r2, q2]
    · rw [r1] at q
      cases q
  · rcases q with ⟨q1, q2⟩ | q
    · rw [r] at q1
      cases q1
    · rw [r] at q
      cases q
      rfl
theorem OWK.old {h h' : aH} {x z : Nat} (o : OWK h h' x) (hx : x = h.length) (t : 114 ≤ z ∧ tg h z = (110, 13)) : tg h' z = (110, 13) ∧ ∀ k, k < 10 → fA h' z k = fA h z k := by
  refine o z t.1 t.2 (fun e => ?_)
  have q := t.2
  unfold tg at q
  rw [List.getElem?_eq_none (by omega)] at q
  exact absurd (congrArg Prod.fst q) (by decide)
/-- the words that are there stay as they are -/
def KWc (h h' : aH) : Prop := ∀ (i : Int) (z : Nat), 0 ≤ i → i < fO h 15 1 → wz h i z → wz h' i z ∧ ∀ k, k < 10 → fA h' z k = fA h z k
theorem KWc.rf {h : aH} : KWc h h := fun _ _ _ _ w => ⟨w, fun _ _ => rfl⟩
theorem KWc.tr {a b c : aH} (g : KWc a b) (k : KWc b c) (l : fO a 15 1 ≤ fO b 15 1) : KWc a c := fun i z h0 h1 w => by
  obtain ⟨w1, e1⟩ := g i z h0 h1 w
  obtain ⟨w2, e2⟩ := k i z h0 (by omega) w1
  exact ⟨w2, fun j hj => (e2 j hj).trans (e1 j hj)⟩
theorem KWc.un {W : List Nat} {h h' : aH} (hO : OK h) (g : un W h h') (h1 : 16 ∉ W) (hw : ∀ k, k < 10 → 22000 + k ∉ W) : KWc h h' := fun i z _ _ w => by
  have t := wz_ok hO w
  exact ⟨wz_c (arR_u hO g h1).symm w, fun k hk => fA_un hO g t.1 t.2 hk (hw k hk)⟩
theorem arR16_len {h : aH} (hO : OK h) : (arR h 16).length = 150 := by
  obtain ⟨xs, hc, hn, he⟩ := hO.wor (hO.fix 16 (by decide) rfl)
  rw [arR_of hc]
  exact hn
theorem KWc.push {h h' : aH} {x : Nat} (hO : OK h) (o : OWK h h' x) (hx : x = h.length) (a : arR h' 16 = (arR h 16).set (fO h 15 1).toNat (some x)) (h0 : 0 ≤ fO h 15 1 ∧ fO h 15 1 ≤ 149) : KWc h h' ∧ wz h' (fO h 15 1) x := by
  have hl := arR16_len hO
  refine ⟨fun i z i0 i1 w => ?_, ?_⟩
  · have t := wz_ok hO w
    refine ⟨?_, (o.old hx t).2⟩
    unfold wz at w ⊢
    rw [a, List.getElem?_set_ne (by omega)]
    exact w
  · unfold wz
    rw [a, List.getElem?_set_self (by omega)]
/-- a word with its fields -/
def NWz (h : aH) (i : Int) (z : Nat) (ki pe re sl y m d mo : Int) : Prop := wz h i z ∧ fO h z 0 = i ∧ fO h z 1 = ki ∧ fO h z 2 = pe ∧ fO h z 3 = re ∧ fO h z 4 = sl ∧ fO h z 5 = y ∧ fO h z 6 = m ∧ fO h z 7 = d ∧ fO h z 8 = mo
theorem NWz.k {h h' : aH} {i : Int} {z : Nat} {ki pe re sl y m d mo : Int} (g : NWz h i z ki pe re sl y m d mo) (k : KWc h h') (h0 : 0 ≤ i) (h1 : i < fO h 15 1) : NWz h' i z ki pe re sl y m d mo ∧ fA h' z 9 = fA h z 9 := by
  obtain ⟨w, e⟩ := g
  obtain ⟨w', f⟩ := k i z h0 h1 w
  refine ⟨⟨w', ?_⟩, f 9 (by decide)⟩
  rw [fO_eA (f 0 (by decide)), fO_eA (f 1 (by decide)), fO_eA (f 2 (by decide)), fO_eA (f 3 (by decide)), fO_eA (f 4 (by decide)), fO_eA (f 5 (by decide)), fO_eA (f 6 (by decide)), fO_eA (f 7 (by decide)), fO_eA (f 8 (by decide))]
  exact e
/-- one of two by a condition, and a condition, in words that omega doesn't take apart -/
def ifG (G A B : Prop) : Prop := (G → A) ∧ (¬ G → B)
def imG (G A : Prop) : Prop := G → A
theorem mo_G {a b : aH} {z : Nat} {k kd : Int} {c v : Int32} (q : ifG (k = 0 ∨ k = 4 ∨ k = 5) (fA b z 8 = fA a z 8) (fA b z 8 = some (.inl c))) (e : k = kd) (f : fA a z 8 = some (.inl v)) (hv : v.toInt = -1) : ((kd = 0 ∨ kd = 4 ∨ kd = 5) ∧ fO b z 8 = -1) ∨ (¬ (kd = 0 ∨ kd = 4 ∨ kd = 5) ∧ fO b z 8 = c.toInt) := by
  subst e
  by_cases g : k = 0 ∨ k = 4 ∨ k = 5
  · exact Or.inl ⟨g, by rw [fO_fA ((q.1 g).trans f)]; exact hv⟩
  · exact Or.inr ⟨g, fO_fA (q.2 g)⟩
theorem cr_G {h0 a b : aH} {z : Nat} {k kd i : Int} (q : ifG (k = 3) (∃ zs r, wz a i zs ∧ rtz a zs r ∧ fA b z 9 = some (.inr (.inr (some r)))) (fA b z 9 = fA a z 9)) (e : k = kd) (f : fA a z 9 = some (.inr (.inr none))) (ea : arR a 16 = arR h0 16) (ow : OWK h0 a z) (hO : OK h0) (hz : z = h0.length) : (kd ≠ 3 → fA b z 9 = some (.inr (.inr none))) ∧ (kd = 3 → ∃ zs r, wz h0 i zs ∧ rtz h0 zs r ∧ fA b z 9 = some (.inr (.inr (some r)))) := by
  subst e
  refine ⟨fun g => (q.2 g).trans f, fun g => ?_⟩
  obtain ⟨zs, r, w, qq, e⟩ := q.1 g
  have w0 := wz_c ea w
  exact ⟨zs, r, w0, rtz_c ((ow.old hz (wz_ok hO w0)).2 9 (by decide)) qq, e⟩
set_option maxRecDepth 20000 in
set_option maxHeartbeats 4000000 in
theorem se_X1_wordAt {d kc ks : Nat} {h0 : aH} {Q : Option aV → aH → Prop} (hO0 : OK h0) (a1 : Int32) (pre0 : NA h0) (hQ : ∀ r, (∃ o, r = some (.inr (.inr o)) ∧ (∀ z, o = some z → 114 ≤ z ∧ tg h0 z = (110, 13)) ∧ (o = none → ¬ (0 ≤ a1.toInt ∧ a1.toInt < fO h0 15 1)) ∧ (∀ z, o = some z → (0 ≤ a1.toInt ∧ a1.toInt < fO h0 15 1) ∧ wz h0 a1.toInt z)) → Q r h0) : uCall Mt (d + 1) 8 [(.inr (.inr (some 15))), (.inl a1)] h0 kc ks Q := by
  have l_0 : ((0) : Int32).toInt = 0 := by decide
  refine uc_ink [some (.inr (.inr (some 15))), some (.inl a1)] mt_8 (Nat.le_of_ble_eq_true rfl) rfl ?_
  obtain ⟨f2, f3, f4, f5, hc1, k6⟩ := ok_15 hO0
  have t7 := fO_of (k := 1) hc1 rfl
  refine ur_ldI rfl rfl ?_
  refine ur_if1 rfl (fun c8 => ?_) (fun c8 => ?_)
  · have t9 := lt_to c8
    refine ur_push rfl ?_
    exact ur_ret rfl rfl (hQ _ ⟨_, rfl, (fun _ e => nomatch e), (fun _ => by omega), (fun _ e => nomatch e)⟩ )
  · have t10 := lt_no c8
    refine ur_ldI rfl rfl ?_
    refine ur_ldA rfl rfl ?_
    refine ur_get rfl hc1 rfl ?_
    have z11 := any_r a1
    have z12 := any_r f2
    refine ur_if2 rfl (fun c13 => ?_) (fun c13 => ?_)
    · have t14 := le_to c13
      refine ur_push rfl ?_
      exact ur_ret rfl rfl (hQ _ ⟨_, rfl, (fun _ e => nomatch e), (fun _ => by omega), (fun _ e => nomatch e)⟩ )
    · have t15 := le_no c13
      refine ur_ldA rfl rfl ?_
      refine ur_get rfl hc1 rfl ?_
      refine ur_ldI rfl rfl ?_
      obtain ⟨xs17, hc16, hn18, he19⟩ := hO0.wor (hO0.fix 16 (by decide) rfl)
      refine ur_aldAV rfl hc16 hn18 (by omega) (fun o20 hx21 => ?_)
      have k22 : ∀ z, o20 = some z → 114 ≤ z ∧ tg h0 z = (110, 13) := fun z e => he19 _ z (by rw [hx21, e])
      refine ur_go rfl ?_
      have t23 : o20 = none → ¬ (0 ≤ a1.toInt ∧ a1.toInt < fO h0 15 1) := fun e => absurd e (NA_some pre0 hc16 hx21 (by omega) (by omega))
      have t24 : ∀ z, o20 = some z → (0 ≤ a1.toInt ∧ a1.toInt < fO h0 15 1) ∧ wz h0 a1.toInt z := fun z e => ⟨by omega, by unfold wz; rw [arR_of hc16, hx21, e]⟩
      exact ur_ret rfl rfl (hQ _ ⟨_, rfl, k22, (fun e => by have e := t23 e; omega), t24⟩ )

set_option maxRecDepth 20000 in
set_option maxHeartbeats 4000000 in
theorem sd_X10_rootWord {d kc ks : Nat} {h0 : aH} {Q : Option aV → aH → Prop} (hO0 : OK h0) {a0 : Nat} (g0 : 114 ≤ a0) (t0 : tg h0 a0 = (110, 13)) (hQ : ∀ r, (∃ z, r = some (.inr (.inr (some z))) ∧ (114 ≤ z ∧ tg h0 z = (110, 13)) ∧ (rtz h0 a0 z)) → Q r h0) : uCall Mt (d + 1) 117 [(.inr (.inr (some a0)))] h0 kc ks Q := by
  refine uc_ink [some (.inr (.inr (some a0)))] mt_117 (Nat.le_of_ble_eq_true rfl) rfl ?_
  refine ur_ldA rfl rfl ?_
  obtain ⟨g17, f2, f3, f4, f5, f6, f7, f8, f9, f10, o14, f11, f12, f13, hc1, k15, k16⟩ := hO0.word t0
  refine ur_get rfl hc1 rfl ?_
  cases o14 with
  | none =>
    refine ur_nulN rfl ?_
    refine ur_ldA rfl rfl ?_
    refine ur_go rfl ?_
    exact ur_ret rfl rfl (hQ _ ⟨_, rfl, ⟨g17, t0⟩, Or.inl ⟨fA_of (k := 9) hc1, rfl⟩⟩ )
  | some r18 =>
    refine ur_nulS rfl ?_
    have k19 := k15 _ rfl
    refine ur_ldA rfl rfl ?_
    refine ur_get rfl hc1 rfl ?_
    exact ur_ret rfl rfl (hQ _ ⟨_, rfl, ⟨k19.1, k19.2⟩, Or.inr (fA_of (k := 9) hc1)⟩ )

set_option maxRecDepth 20000 in
set_option maxHeartbeats 4000000 in
theorem sd_X10_dateIt {d kc ks : Nat} {h0 : aH} {Q : Option aV → aH → Prop} (hO0 : OK h0) {a0 : Nat} (g0 : 114 ≤ a0) (t0 : tg h0 a0 = (110, 13)) (a1 : Int32) (a2 : Int32) (a3 : Int32) (hQ : ∀ r h', (r = none) → OK h' → un [22005, 22006, 22007] h0 h' → (OWK h0 h' a0) → (fA h' a0 5 = some (.inl a1) ∧ fA h' a0 6 = some (.inl a2) ∧ fA h' a0 7 = some (.inl a3)) → Q r h') : uCall Mt (d + 1) 115 [(.inr (.inr (some a0))), (.inl a1), (.inl a2), (.inl a3)] h0 kc ks Q := by
  refine uc_ink [some (.inr (.inr (some a0))), some (.inl a1), some (.inl a2), some (.inl a3)] mt_115 (Nat.le_of_ble_eq_true rfl) rfl ?_
  refine ur_ldA rfl rfl ?_
  refine ur_ldI rfl rfl ?_
  obtain ⟨g17, f2, f3, f4, f5, f6, f7, f8, f9, f10, o14, f11, f12, f13, hc1, k15, k16⟩ := hO0.word t0
  refine ur_putV (W := [22005, 22006, 22007]) (fs' := [(.inl f2), (.inl f3), (.inl f4), (.inl f5), (.inl f6), (.inl a1), (.inl f8), (.inl f9), (.inl f10), (.inr (.inr o14)), (.inl f11), (.inl f12), (.inl f13)]) rfl hO0 hc1 (Nat.le_of_ble_eq_true rfl) rfl rfl ⟨g17, _, _, _, _, _, _, _, _, _, _, _, _, _, rfl, k15, by omega⟩ rfl (Or.inr (by show 1000 + 100 * wid a0 (110, 13) + 5 ∈ _; rw [(wid_w g17)]; decide)) (fun h19 hO19 hu19 d18 hc20 => ?_)
  refine ur_ldA rfl rfl ?_
  refine ur_ldI rfl rfl ?_
  refine ur_putV (W := [22005, 22006, 22007]) (fs' := [(.inl f2), (.inl f3), (.inl f4), (.inl f5), (.inl f6), (.inl a1), (.inl a2), (.inl f9), (.inl f10), (.inr (.inr o14)), (.inl f11), (.inl f12), (.inl f13)]) rfl hO19 hc20 (Nat.le_of_ble_eq_true rfl) rfl rfl ⟨g17, _, _, _, _, _, _, _, _, _, _, _, _, _, rfl, (fun z e => ⟨(k15 z e).1, (hu19.tm (k15 z e).2 (by decide))⟩), by omega⟩ rfl (Or.inr (by show 1000 + 100 * wid a0 (110, 13) + 6 ∈ _; rw [(wid_w g17)]; decide)) (fun h22 hO22 hu22 d21 hc23 => ?_)
  refine ur_ldA rfl rfl ?_
  refine ur_ldI rfl rfl ?_
  refine ur_putV (W := [22005, 22006, 22007]) (fs' := [(.inl f2), (.inl f3), (.inl f4), (.inl f5), (.inl f6), (.inl a1), (.inl a2), (.inl a3), (.inl f10), (.inr (.inr o14)), (.inl f11), (.inl f12), (.inl f13)]) rfl hO22 hc23 (Nat.le_of_ble_eq_true rfl) rfl rfl ⟨g17, _, _, _, _, _, _, _, _, _, _, _, _, _, rfl, (fun z e => ⟨(k15 z e).1, (hu22.tm (hu19.tm (k15 z e).2 (by decide)) (by decide))⟩), by omega⟩ rfl (Or.inr (by show 1000 + 100 * wid a0 (110, 13) + 7 ∈ _; rw [(wid_w g17)]; decide)) (fun h25 hO25 hu25 d24 hc26 => ?_)
  exact ur_ret0 rfl (hQ _ _ rfl hO25 (hu19.tr (hu22.tr hu25)) (((OWK.st d18 (Or.inr rfl)).tr (OWK.st d21 (Or.inr rfl))).tr (OWK.st d24 (Or.inr rfl))) ⟨fA_of (k := 5) hc26, fA_of (k := 6) hc26, fA_of (k := 7) hc26⟩)

set_option maxRecDepth 20000 in
set_option maxHeartbeats 4000000 in
theorem sd_X10_copyFrom {d kc ks : Nat} {h0 : aH} {Q : Option aV → aH → Prop} (hO0 : OK h0) {a0 : Nat} (g0 : 114 ≤ a0) (t0 : tg h0 a0 = (110, 13)) {a1 : Nat} (g1 : 114 ≤ a1) (t1 : tg h0 a1 = (110, 13)) (hQ : ∀ r h', (r = none) → OK h' → un [22009] h0 h' → (OWK h0 h' a0) → (fA h' a0 9 = some (.inr (.inr (some a1)))) → Q r h') : uCall Mt (d + 1) 116 [(.inr (.inr (some a0))), (.inr (.inr (some a1)))] h0 kc ks Q := by
  refine uc_ink [some (.inr (.inr (some a0))), some (.inr (.inr (some a1)))] mt_116 (Nat.le_of_ble_eq_true rfl) rfl ?_
  refine ur_ldA rfl rfl ?_
  refine ur_ldA rfl rfl ?_
  obtain ⟨g17, f2, f3, f4, f5, f6, f7, f8, f9, f10, o14, f11, f12, f13, hc1, k15, k16⟩ := hO0.word t0
  refine ur_putV (W := [22009]) (fs' := [(.inl f2), (.inl f3), (.inl f4), (.inl f5), (.inl f6), (.inl f7), (.inl f8), (.inl f9), (.inl f10), (.inr (.inr (some a1))), (.inl f11), (.inl f12), (.inl f13)]) rfl hO0 hc1 (Nat.le_of_ble_eq_true rfl) rfl rfl ⟨g17, _, _, _, _, _, _, _, _, _, _, _, _, _, rfl, (fun _ e => by cases e; exact ⟨g1, t1⟩), by omega⟩ rfl (Or.inr (by show 1000 + 100 * wid a0 (110, 13) + 9 ∈ _; rw [(wid_w g17)]; decide)) (fun h19 hO19 hu19 d18 hc20 => ?_)
  exact ur_ret0 rfl (hQ _ _ rfl hO19 hu19 (OWK.st d18 (Or.inr rfl)) (fA_of (k := 9) hc20))

set_option maxRecDepth 20000 in
set_option maxHeartbeats 4000000 in
theorem se_X1_addWord {d kc ks : Nat} {h0 : aH} {Q : Option aV → aH → Prop} (hO0 : OK h0) {a1 : Nat} (g1 : 114 ≤ a1) (t1 : tg h0 a1 = (110, 13)) (a2 : Int32) (pre0 : NA h0) (pre1 : fO h0 15 1 ≤ 149) (pre2 : fO h0 a1 1 = 3 → 0 ≤ a2.toInt ∧ a2.toInt < fO h0 15 1) (hQ : ∀ r h', (∃ x : Int32, r = some (.inl x) ∧ (x.toInt = fO h0 15 1 ∧ fO h' 15 1 = fO h0 15 1 + 1)) → OK h' → un [16, 2501, 22008, 22009, 22010, 22011, 22012] h0 h' → (nW h' ≤ nW h0 + 0) → (NA h') → (OWK h0 h' a1) → (arR h' 16 = (arR h0 16).set (fO h0 15 1).toNat (some a1)) → (ifG (fO h0 a1 1 = 0 ∨ fO h0 a1 1 = 4 ∨ fO h0 a1 1 = 5) (fA h' a1 8 = fA h0 a1 8) (fA h' a1 8 = some (.inl a2))) → (ifG (fO h0 a1 1 = 3) (∃ zs r, wz h0 a2.toInt zs ∧ rtz h0 zs r ∧ fA h' a1 9 = some (.inr (.inr (some r)))) (fA h' a1 9 = fA h0 a1 9)) → Q r h') : uCall Mt (d + 6) 11 [(.inr (.inr (some 15))), (.inr (.inr (some a1))), (.inl a2)] h0 kc ks Q := by
  have l_0 : ((0) : Int32).toInt = 0 := by decide
  have l_1 : ((1) : Int32).toInt = 1 := by decide
  have l_3 : ((3) : Int32).toInt = 3 := by decide
  have l_4 : ((4) : Int32).toInt = 4 := by decide
  have l_5 : ((5) : Int32).toInt = 5 := by decide
  have l_150 : ((150) : Int32).toInt = 150 := by decide
  refine uc_ink [some (.inr (.inr (some 15))), some (.inr (.inr (some a1))), some (.inl a2), none] mt_11 (Nat.le_of_ble_eq_true rfl) rfl ?_
  obtain ⟨f2, f3, f4, f5, hc1, k6⟩ := ok_15 hO0
  have t7 := fO_of (k := 1) hc1 rfl
  obtain ⟨g24, f9, f10, f11, f12, f13, f14, f15, f16, f17, o21, f18, f19, f20, hc8, k22, k23⟩ := hO0.word t1
  have t25 := fO_of (k := 1) hc8 rfl
  refine ur_ldA rfl rfl ?_
  refine ur_get rfl hc1 rfl ?_
  refine ur_push rfl ?_
  refine ur_if2 rfl (fun c26 => ?_) (fun c26 => ?_)
  · have t27 := lt_to c26
    refine ur_ldA rfl rfl ?_
    refine ur_get rfl hc8 rfl ?_
    refine ur_if1 rfl (fun c28 => ?_) (fun c28 => ?_)
    · have t29 := eq_to c28
      refine ur_ldA rfl rfl ?_
      refine ur_get rfl hc8 rfl ?_
      refine ur_push rfl ?_
      refine ur_if2 rfl (fun c30 => ?_) (fun c30 => ?_)
      · have t31 := ne_to c30
        refine ur_ldA rfl rfl ?_
        refine ur_get rfl hc1 rfl ?_
        refine ur_ldA rfl rfl ?_
        refine ur_get rfl hc1 rfl ?_
        refine ur_ldA rfl rfl ?_
        obtain ⟨xs33, hc32, hn34, he35⟩ := hO0.wor (hO0.fix 16 (by decide) rfl)
        refine ur_astAV (W := [16]) (m := 150) rfl hO0 hc32 hc8 (Or.inr ⟨rfl, g24, t1⟩) hn34 (by omega) (Or.inr (Or.inr (wid_fix (by decide) (by decide)))) (fun h38 hO38 hv38 d36 hc37 => ?_)
        have hu38 : un [16, 2501, 22008, 22009, 22010, 22011, 22012] h0 h38 := hv38.mono (by decide)
        refine ur_ldA rfl rfl ?_
        refine ur_dup rfl rfl ?_
        refine ur_get rfl ((d36 _ (by decide)).trans hc1) rfl ?_
        have t39 := fO_of (k := 1) ((d36 _ (by decide)).trans hc1) rfl
        refine ur_push rfl ?_
        refine ur_binV rfl (fun x40 e41 => ?_)
        have z42 := any_r f2
        have t43 := ti_add e41 (by omega) (by omega)
        refine ur_putV (W := [2501]) (fs' := [(.inr (.inr (some 16))), (.inl x40), (.inl f3), (.inl f4), (.inl f5), (.inr (.inr (some 17))), (.inr (.inr (some 18))), (.inr (.inr (some 19))), (.inr (.inr (some 20))), (.inr (.inr (some 21))), (.inr (.inr (some 22)))]) rfl hO38 ((d36 _ (by decide)).trans hc1) (Nat.le_of_ble_eq_true rfl) rfl rfl ⟨rfl, _, _, _, _, rfl, by omega⟩ rfl (Or.inr (by show 1000 + 100 * wid 15 (101, 11) + 1 ∈ _; rw [(wid_f (by decide))]; decide)) (fun h45 hO45 hv45 d44 hc46 => ?_)
        have hu45 : un [16, 2501, 22008, 22009, 22010, 22011, 22012] h38 h45 := hv45.mono (by decide)
        refine ur_ldA rfl rfl ?_
        refine ur_ldA rfl rfl ?_
        have t47 := fO_keep (a := 15) (ci := 1) (n := 11) (k := 1) hO0 hO38 hv38 (by decide) rfl (by decide) rfl (by decide)
        refine ur_inl rfl (rcv_of hc46) (Nat.le_of_ble_eq_true rfl) (Nat.le_of_ble_eq_true rfl) (sf_X1_settleSpans hO45 g24 (hu45.tm (hu38.tm t1 (by decide)) (by decide)) (fun w48 h50 hr49 hO50 hv50 => ?_))
        have hu50 : un [16, 2501, 22008, 22009, 22010, 22011, 22012] h45 h50 := hv50.mono (by decide)
        subst hr49
        show uRun _ (uCall Mt _) _ 94 (_, [], _, _, _)
        have t51 := fO_of (k := 1) (hv50.ko (n := 11) hc46 rfl (wid_f (by decide)) (by decide)) rfl
        obtain ⟨g68, f53, f54, f55, f56, f57, f58, f59, f60, f61, o65, f62, f63, f64, hc52, k66, k67⟩ := hO50.word (hu50.tm (hu45.tm (hu38.tm t1 (by decide)) (by decide)) (by decide))
        have t69 := fO_of (k := 1) hc52 rfl
        refine ur_ldA rfl rfl ?_
        refine ur_get rfl (hv50.ko (n := 11) hc46 rfl (wid_f (by decide)) (by decide)) rfl ?_
        refine ur_push rfl ?_
        refine ur_binV rfl (fun x70 e71 => ?_)
        have z72 := any_r x40
        have t73 := ti_sub e71 (by omega) (by omega)
        have t74 := fO_keep (a := 15) (ci := 1) (n := 11) (k := 1) hO45 hO50 hv50 (by decide) rfl (by decide) rfl (by decide)
        have t75 := hv38.nW (by decide)
        have t76 := hv45.nW (by decide)
        have t77 := hv50.nW (by decide)
        have n78 := NA_push pre0 hc32 hc37 (by omega) (by omega) (d44 16 (by decide)) (show fO h45 15 1 = fO h0 15 1 + 1 by omega) hn34
        exact ur_ret rfl rfl (hQ _ _ ⟨_, rfl, by omega⟩ hO50 (hu38.tr (hu45.tr hu50)) (by omega) (n78.un hO45 hO50 hv50 (by decide) (by decide)) (((OWK.st d36 (Or.inl (by decide))).tr (OWK.st d44 (Or.inl (by decide)))).tr (OWK.un hO45 hv50 (by decide))) (((arR_u hO45 hv50 (by decide)).trans (arR_c (d44 16 (by decide)))).trans (show arR h38 16 = (arR h0 16).set (fO h0 15 1).toNat (some a1) by rw [arR_of hc37, ← (show arR h0 16 = _ from arR_of hc32), show arR h0 16 = arR h0 16 from rfl, show f2.toInt.toNat = (fO h0 15 1).toNat from congrArg Int.toNat (show f2.toInt = fO h0 15 1 by omega)])) ⟨fun _ => ((fA_un hO45 hv50 g68 (hu45.tm (hu38.tm t1 (by decide)) (by decide)) (by decide) (by decide)).trans ((fA_un hO38 hv45 g68 (hu38.tm t1 (by decide)) (by decide) (by decide)).trans (fA_un hO0 hv38 g68 t1 (by decide) (by decide)))), fun q => absurd (by omega) q⟩ ⟨fun q => by exfalso; omega, fun _ => ((fA_un hO45 hv50 g68 (hu45.tm (hu38.tm t1 (by decide)) (by decide)) (by decide) (by decide)).trans ((fA_un hO38 hv45 g68 (hu38.tm t1 (by decide)) (by decide) (by decide)).trans (fA_un hO0 hv38 g68 t1 (by decide) (by decide))))⟩)
      · have t79 := ne_no c30
        exfalso
        omega
    · have t80 := eq_no c28
      refine ur_ldA rfl rfl ?_
      refine ur_get rfl hc8 rfl ?_
      refine ur_push rfl ?_
      refine ur_if2 rfl (fun c81 => ?_) (fun c81 => ?_)
      · have t82 := eq_to c81
        refine ur_ldA rfl rfl ?_
        refine ur_get rfl hc8 rfl ?_
        refine ur_push rfl ?_
        refine ur_if2 rfl (fun c83 => ?_) (fun c83 => ?_)
        · have t84 := ne_to c83
          refine ur_ldA rfl rfl ?_
          refine ur_get rfl hc1 rfl ?_
          refine ur_ldA rfl rfl ?_
          refine ur_get rfl hc1 rfl ?_
          refine ur_ldA rfl rfl ?_
          obtain ⟨xs86, hc85, hn87, he88⟩ := hO0.wor (hO0.fix 16 (by decide) rfl)
          refine ur_astAV (W := [16]) (m := 150) rfl hO0 hc85 hc8 (Or.inr ⟨rfl, g24, t1⟩) hn87 (by omega) (Or.inr (Or.inr (wid_fix (by decide) (by decide)))) (fun h91 hO91 hv91 d89 hc90 => ?_)
          have hu91 : un [16, 2501, 22008, 22009, 22010, 22011, 22012] h0 h91 := hv91.mono (by decide)
          refine ur_ldA rfl rfl ?_
          refine ur_dup rfl rfl ?_
          refine ur_get rfl ((d89 _ (by decide)).trans hc1) rfl ?_
          have t92 := fO_of (k := 1) ((d89 _ (by decide)).trans hc1) rfl
          refine ur_push rfl ?_
          refine ur_binV rfl (fun x93 e94 => ?_)
          have z95 := any_r f2
          have t96 := ti_add e94 (by omega) (by omega)
          refine ur_putV (W := [2501]) (fs' := [(.inr (.inr (some 16))), (.inl x93), (.inl f3), (.inl f4), (.inl f5), (.inr (.inr (some 17))), (.inr (.inr (some 18))), (.inr (.inr (some 19))), (.inr (.inr (some 20))), (.inr (.inr (some 21))), (.inr (.inr (some 22)))]) rfl hO91 ((d89 _ (by decide)).trans hc1) (Nat.le_of_ble_eq_true rfl) rfl rfl ⟨rfl, _, _, _, _, rfl, by omega⟩ rfl (Or.inr (by show 1000 + 100 * wid 15 (101, 11) + 1 ∈ _; rw [(wid_f (by decide))]; decide)) (fun h98 hO98 hv98 d97 hc99 => ?_)
          have hu98 : un [16, 2501, 22008, 22009, 22010, 22011, 22012] h91 h98 := hv98.mono (by decide)
          refine ur_ldA rfl rfl ?_
          refine ur_ldA rfl rfl ?_
          have t100 := fO_keep (a := 15) (ci := 1) (n := 11) (k := 1) hO0 hO91 hv91 (by decide) rfl (by decide) rfl (by decide)
          refine ur_inl rfl (rcv_of hc99) (Nat.le_of_ble_eq_true rfl) (Nat.le_of_ble_eq_true rfl) (sf_X1_settleSpans hO98 g24 (hu98.tm (hu91.tm t1 (by decide)) (by decide)) (fun w101 h103 hr102 hO103 hv103 => ?_))
          have hu103 : un [16, 2501, 22008, 22009, 22010, 22011, 22012] h98 h103 := hv103.mono (by decide)
          subst hr102
          show uRun _ (uCall Mt _) _ 94 (_, [], _, _, _)
          have t104 := fO_of (k := 1) (hv103.ko (n := 11) hc99 rfl (wid_f (by decide)) (by decide)) rfl
          obtain ⟨g121, f106, f107, f108, f109, f110, f111, f112, f113, f114, o118, f115, f116, f117, hc105, k119, k120⟩ := hO103.word (hu103.tm (hu98.tm (hu91.tm t1 (by decide)) (by decide)) (by decide))
          have t122 := fO_of (k := 1) hc105 rfl
          refine ur_ldA rfl rfl ?_
          refine ur_get rfl (hv103.ko (n := 11) hc99 rfl (wid_f (by decide)) (by decide)) rfl ?_
          refine ur_push rfl ?_
          refine ur_binV rfl (fun x123 e124 => ?_)
          have z125 := any_r x93
          have t126 := ti_sub e124 (by omega) (by omega)
          have t127 := fO_keep (a := 15) (ci := 1) (n := 11) (k := 1) hO98 hO103 hv103 (by decide) rfl (by decide) rfl (by decide)
          have t128 := hv91.nW (by decide)
          have t129 := hv98.nW (by decide)
          have t130 := hv103.nW (by decide)
          have n131 := NA_push pre0 hc85 hc90 (by omega) (by omega) (d97 16 (by decide)) (show fO h98 15 1 = fO h0 15 1 + 1 by omega) hn87
          exact ur_ret rfl rfl (hQ _ _ ⟨_, rfl, by omega⟩ hO103 (hu91.tr (hu98.tr hu103)) (by omega) (n131.un hO98 hO103 hv103 (by decide) (by decide)) (((OWK.st d89 (Or.inl (by decide))).tr (OWK.st d97 (Or.inl (by decide)))).tr (OWK.un hO98 hv103 (by decide))) (((arR_u hO98 hv103 (by decide)).trans (arR_c (d97 16 (by decide)))).trans (show arR h91 16 = (arR h0 16).set (fO h0 15 1).toNat (some a1) by rw [arR_of hc90, ← (show arR h0 16 = _ from arR_of hc85), show arR h0 16 = arR h0 16 from rfl, show f2.toInt.toNat = (fO h0 15 1).toNat from congrArg Int.toNat (show f2.toInt = fO h0 15 1 by omega)])) ⟨fun _ => ((fA_un hO98 hv103 g121 (hu98.tm (hu91.tm t1 (by decide)) (by decide)) (by decide) (by decide)).trans ((fA_un hO91 hv98 g121 (hu91.tm t1 (by decide)) (by decide) (by decide)).trans (fA_un hO0 hv91 g121 t1 (by decide) (by decide)))), fun q => absurd (by omega) q⟩ ⟨fun q => by exfalso; omega, fun _ => ((fA_un hO98 hv103 g121 (hu98.tm (hu91.tm t1 (by decide)) (by decide)) (by decide) (by decide)).trans ((fA_un hO91 hv98 g121 (hu91.tm t1 (by decide)) (by decide) (by decide)).trans (fA_un hO0 hv91 g121 t1 (by decide) (by decide))))⟩)
        · have t132 := ne_no c83
          exfalso
          omega
      · have t133 := eq_no c81
        refine ur_ldA rfl rfl ?_
        refine ur_get rfl hc8 rfl ?_
        refine ur_push rfl ?_
        refine ur_if2 rfl (fun c134 => ?_) (fun c134 => ?_)
        · have t135 := eq_to c134
          refine ur_ldA rfl rfl ?_
          refine ur_get rfl hc8 rfl ?_
          refine ur_push rfl ?_
          refine ur_if2 rfl (fun c136 => ?_) (fun c136 => ?_)
          · have t137 := ne_to c136
            refine ur_ldA rfl rfl ?_
            refine ur_get rfl hc1 rfl ?_
            refine ur_ldA rfl rfl ?_
            refine ur_get rfl hc1 rfl ?_
            refine ur_ldA rfl rfl ?_
            obtain ⟨xs139, hc138, hn140, he141⟩ := hO0.wor (hO0.fix 16 (by decide) rfl)
            refine ur_astAV (W := [16]) (m := 150) rfl hO0 hc138 hc8 (Or.inr ⟨rfl, g24, t1⟩) hn140 (by omega) (Or.inr (Or.inr (wid_fix (by decide) (by decide)))) (fun h144 hO144 hv144 d142 hc143 => ?_)
            have hu144 : un [16, 2501, 22008, 22009, 22010, 22011, 22012] h0 h144 := hv144.mono (by decide)
            refine ur_ldA rfl rfl ?_
            refine ur_dup rfl rfl ?_
            refine ur_get rfl ((d142 _ (by decide)).trans hc1) rfl ?_
            have t145 := fO_of (k := 1) ((d142 _ (by decide)).trans hc1) rfl
            refine ur_push rfl ?_
            refine ur_binV rfl (fun x146 e147 => ?_)
            have z148 := any_r f2
            have t149 := ti_add e147 (by omega) (by omega)
            refine ur_putV (W := [2501]) (fs' := [(.inr (.inr (some 16))), (.inl x146), (.inl f3), (.inl f4), (.inl f5), (.inr (.inr (some 17))), (.inr (.inr (some 18))), (.inr (.inr (some 19))), (.inr (.inr (some 20))), (.inr (.inr (some 21))), (.inr (.inr (some 22)))]) rfl hO144 ((d142 _ (by decide)).trans hc1) (Nat.le_of_ble_eq_true rfl) rfl rfl ⟨rfl, _, _, _, _, rfl, by omega⟩ rfl (Or.inr (by show 1000 + 100 * wid 15 (101, 11) + 1 ∈ _; rw [(wid_f (by decide))]; decide)) (fun h151 hO151 hv151 d150 hc152 => ?_)
            have hu151 : un [16, 2501, 22008, 22009, 22010, 22011, 22012] h144 h151 := hv151.mono (by decide)
            refine ur_ldA rfl rfl ?_
            refine ur_ldA rfl rfl ?_
            have t153 := fO_keep (a := 15) (ci := 1) (n := 11) (k := 1) hO0 hO144 hv144 (by decide) rfl (by decide) rfl (by decide)
            refine ur_inl rfl (rcv_of hc152) (Nat.le_of_ble_eq_true rfl) (Nat.le_of_ble_eq_true rfl) (sf_X1_settleSpans hO151 g24 (hu151.tm (hu144.tm t1 (by decide)) (by decide)) (fun w154 h156 hr155 hO156 hv156 => ?_))
            have hu156 : un [16, 2501, 22008, 22009, 22010, 22011, 22012] h151 h156 := hv156.mono (by decide)
            subst hr155
            show uRun _ (uCall Mt _) _ 94 (_, [], _, _, _)
            have t157 := fO_of (k := 1) (hv156.ko (n := 11) hc152 rfl (wid_f (by decide)) (by decide)) rfl
            obtain ⟨g174, f159, f160, f161, f162, f163, f164, f165, f166, f167, o171, f168, f169, f170, hc158, k172, k173⟩ := hO156.word (hu156.tm (hu151.tm (hu144.tm t1 (by decide)) (by decide)) (by decide))
            have t175 := fO_of (k := 1) hc158 rfl
            refine ur_ldA rfl rfl ?_
            refine ur_get rfl (hv156.ko (n := 11) hc152 rfl (wid_f (by decide)) (by decide)) rfl ?_
            refine ur_push rfl ?_
            refine ur_binV rfl (fun x176 e177 => ?_)
            have z178 := any_r x146
            have t179 := ti_sub e177 (by omega) (by omega)
            have t180 := fO_keep (a := 15) (ci := 1) (n := 11) (k := 1) hO151 hO156 hv156 (by decide) rfl (by decide) rfl (by decide)
            have t181 := hv144.nW (by decide)
            have t182 := hv151.nW (by decide)
            have t183 := hv156.nW (by decide)
            have n184 := NA_push pre0 hc138 hc143 (by omega) (by omega) (d150 16 (by decide)) (show fO h151 15 1 = fO h0 15 1 + 1 by omega) hn140
            exact ur_ret rfl rfl (hQ _ _ ⟨_, rfl, by omega⟩ hO156 (hu144.tr (hu151.tr hu156)) (by omega) (n184.un hO151 hO156 hv156 (by decide) (by decide)) (((OWK.st d142 (Or.inl (by decide))).tr (OWK.st d150 (Or.inl (by decide)))).tr (OWK.un hO151 hv156 (by decide))) (((arR_u hO151 hv156 (by decide)).trans (arR_c (d150 16 (by decide)))).trans (show arR h144 16 = (arR h0 16).set (fO h0 15 1).toNat (some a1) by rw [arR_of hc143, ← (show arR h0 16 = _ from arR_of hc138), show arR h0 16 = arR h0 16 from rfl, show f2.toInt.toNat = (fO h0 15 1).toNat from congrArg Int.toNat (show f2.toInt = fO h0 15 1 by omega)])) ⟨fun _ => ((fA_un hO151 hv156 g174 (hu151.tm (hu144.tm t1 (by decide)) (by decide)) (by decide) (by decide)).trans ((fA_un hO144 hv151 g174 (hu144.tm t1 (by decide)) (by decide) (by decide)).trans (fA_un hO0 hv144 g174 t1 (by decide) (by decide)))), fun q => absurd (by omega) q⟩ ⟨fun q => by exfalso; omega, fun _ => ((fA_un hO151 hv156 g174 (hu151.tm (hu144.tm t1 (by decide)) (by decide)) (by decide) (by decide)).trans ((fA_un hO144 hv151 g174 (hu144.tm t1 (by decide)) (by decide) (by decide)).trans (fA_un hO0 hv144 g174 t1 (by decide) (by decide))))⟩)
          · have t185 := ne_no c136
            exfalso
            omega
        · have t186 := eq_no c134
          refine ur_ldA rfl rfl ?_
          refine ur_ldI rfl rfl ?_
          refine ur_putV (W := [22008]) (fs' := [(.inl f9), (.inl f10), (.inl f11), (.inl f12), (.inl f13), (.inl f14), (.inl f15), (.inl f16), (.inl a2), (.inr (.inr o21)), (.inl f18), (.inl f19), (.inl f20)]) rfl hO0 hc8 (Nat.le_of_ble_eq_true rfl) rfl rfl ⟨g24, _, _, _, _, _, _, _, _, _, _, _, _, _, rfl, k22, by omega⟩ rfl (Or.inr (by show 1000 + 100 * wid a1 (110, 13) + 8 ∈ _; rw [(wid_w g24)]; decide)) (fun h188 hO188 hv188 d187 hc189 => ?_)
          have hu188 : un [16, 2501, 22008, 22009, 22010, 22011, 22012] h0 h188 := hv188.mono (by decide)
          refine ur_ldA rfl rfl ?_
          refine ur_get rfl hc189 rfl ?_
          have t190 := fO_of (k := 1) hc189 rfl
          refine ur_push rfl ?_
          refine ur_if2 rfl (fun c191 => ?_) (fun c191 => ?_)
          · have t192 := ne_to c191
            refine ur_ldA rfl rfl ?_
            refine ur_get rfl ((d187 _ (ne_tg (hO188.fix 15 (by decide) rfl) (hu188.tm t1 (by decide)) (by decide))).trans hc1) rfl ?_
            have t193 := fO_of (k := 1) ((d187 _ (ne_tg (hO188.fix 15 (by decide) rfl) (hu188.tm t1 (by decide)) (by decide))).trans hc1) rfl
            refine ur_ldA rfl rfl ?_
            refine ur_get rfl ((d187 _ (ne_tg (hO188.fix 15 (by decide) rfl) (hu188.tm t1 (by decide)) (by decide))).trans hc1) rfl ?_
            refine ur_ldA rfl rfl ?_
            obtain ⟨xs195, hc194, hn196, he197⟩ := hO188.wor (hO188.fix 16 (by decide) rfl)
            refine ur_astAV (W := [16]) (m := 150) rfl hO188 hc194 hc189 (Or.inr ⟨rfl, g24, (hu188.tm t1 (by decide))⟩) hn196 (by omega) (Or.inr (Or.inr (wid_fix (by decide) (by decide)))) (fun h200 hO200 hv200 d198 hc199 => ?_)
            have hu200 : un [16, 2501, 22008, 22009, 22010, 22011, 22012] h188 h200 := hv200.mono (by decide)
            refine ur_ldA rfl rfl ?_
            refine ur_dup rfl rfl ?_
            refine ur_get rfl ((d198 _ (by decide)).trans ((d187 _ (ne_tg (hO188.fix 15 (by decide) rfl) (hu188.tm t1 (by decide)) (by decide))).trans hc1)) rfl ?_
            have t201 := fO_of (k := 1) ((d198 _ (by decide)).trans ((d187 _ (ne_tg (hO188.fix 15 (by decide) rfl) (hu188.tm t1 (by decide)) (by decide))).trans hc1)) rfl
            refine ur_push rfl ?_
            refine ur_binV rfl (fun x202 e203 => ?_)
            have z204 := any_r f2
            have t205 := ti_add e203 (by omega) (by omega)
            refine ur_putV (W := [2501]) (fs' := [(.inr (.inr (some 16))), (.inl x202), (.inl f3), (.inl f4), (.inl f5), (.inr (.inr (some 17))), (.inr (.inr (some 18))), (.inr (.inr (some 19))), (.inr (.inr (some 20))), (.inr (.inr (some 21))), (.inr (.inr (some 22)))]) rfl hO200 ((d198 _ (by decide)).trans ((d187 _ (ne_tg (hO188.fix 15 (by decide) rfl) (hu188.tm t1 (by decide)) (by decide))).trans hc1)) (Nat.le_of_ble_eq_true rfl) rfl rfl ⟨rfl, _, _, _, _, rfl, by omega⟩ rfl (Or.inr (by show 1000 + 100 * wid 15 (101, 11) + 1 ∈ _; rw [(wid_f (by decide))]; decide)) (fun h207 hO207 hv207 d206 hc208 => ?_)
            have hu207 : un [16, 2501, 22008, 22009, 22010, 22011, 22012] h200 h207 := hv207.mono (by decide)
            refine ur_ldA rfl rfl ?_
            refine ur_ldA rfl rfl ?_
            have t209 := fO_keep (a := 15) (ci := 1) (n := 11) (k := 1) hO0 hO188 hv188 (by decide) rfl (by decide) rfl (by decide)
            have t210 := fO_keep (a := 15) (ci := 1) (n := 11) (k := 1) hO188 hO200 hv200 (by decide) rfl (by decide) rfl (by decide)
            refine ur_inl rfl (rcv_of hc208) (Nat.le_of_ble_eq_true rfl) (Nat.le_of_ble_eq_true rfl) (sf_X1_settleSpans hO207 g24 (hu207.tm (hu200.tm (hu188.tm t1 (by decide)) (by decide)) (by decide)) (fun w211 h213 hr212 hO213 hv213 => ?_))
            have hu213 : un [16, 2501, 22008, 22009, 22010, 22011, 22012] h207 h213 := hv213.mono (by decide)
            subst hr212
            show uRun _ (uCall Mt _) _ 94 (_, [], _, _, _)
            have t214 := fO_of (k := 1) (hv213.ko (n := 11) hc208 rfl (wid_f (by decide)) (by decide)) rfl
            obtain ⟨g231, f216, f217, f218, f219, f220, f221, f222, f223, f224, o228, f225, f226, f227, hc215, k229, k230⟩ := hO213.word (hu213.tm (hu207.tm (hu200.tm (hu188.tm t1 (by decide)) (by decide)) (by decide)) (by decide))
            have t232 := fO_of (k := 1) hc215 rfl
            refine ur_ldA rfl rfl ?_
            refine ur_get rfl (hv213.ko (n := 11) hc208 rfl (wid_f (by decide)) (by decide)) rfl ?_
            refine ur_push rfl ?_
            refine ur_binV rfl (fun x233 e234 => ?_)
            have z235 := any_r x202
            have t236 := ti_sub e234 (by omega) (by omega)
            have t237 := fO_keep (a := 15) (ci := 1) (n := 11) (k := 1) hO207 hO213 hv213 (by decide) rfl (by decide) rfl (by decide)
            have t238 := hv188.nW (by decide)
            have t239 := hv200.nW (by decide)
            have t240 := hv207.nW (by decide)
            have t241 := hv213.nW (by decide)
            have n242 := NA_push (pre0.un hO0 hO188 hv188 (by decide) (by decide)) hc194 hc199 (by omega) (by omega) (d206 16 (by decide)) (show fO h207 15 1 = fO h188 15 1 + 1 by omega) hn196
            exact ur_ret rfl rfl (hQ _ _ ⟨_, rfl, by omega⟩ hO213 (hu188.tr (hu200.tr (hu207.tr hu213))) (by omega) (n242.un hO207 hO213 hv213 (by decide) (by decide)) ((((OWK.st d187 (Or.inr rfl)).tr (OWK.st d198 (Or.inl (by decide)))).tr (OWK.st d206 (Or.inl (by decide)))).tr (OWK.un hO207 hv213 (by decide))) (((arR_u hO207 hv213 (by decide)).trans (arR_c (d206 16 (by decide)))).trans (show arR h200 16 = (arR h0 16).set (fO h0 15 1).toNat (some a1) by rw [arR_of hc199, ← (show arR h188 16 = _ from arR_of hc194), show arR h188 16 = arR h0 16 from (arR_u hO0 hv188 (by decide)), show f2.toInt.toNat = (fO h0 15 1).toNat from congrArg Int.toNat (show f2.toInt = fO h0 15 1 by omega)])) ⟨fun q => by exfalso; omega, fun _ => ((fA_un hO207 hv213 g231 (hu207.tm (hu200.tm (hu188.tm t1 (by decide)) (by decide)) (by decide)) (by decide) (by decide)).trans ((fA_un hO200 hv207 g231 (hu200.tm (hu188.tm t1 (by decide)) (by decide)) (by decide) (by decide)).trans (fA_un hO188 hv200 g231 (hu188.tm t1 (by decide)) (by decide) (by decide)))).trans (fA_of (k := 8) hc189)⟩ ⟨fun q => by exfalso; omega, fun _ => ((fA_un hO207 hv213 g231 (hu207.tm (hu200.tm (hu188.tm t1 (by decide)) (by decide)) (by decide)) (by decide) (by decide)).trans ((fA_un hO200 hv207 g231 (hu200.tm (hu188.tm t1 (by decide)) (by decide)) (by decide) (by decide)).trans ((fA_un hO188 hv200 g231 (hu188.tm t1 (by decide)) (by decide) (by decide)).trans (fA_un hO0 hv188 g231 t1 (by decide) (by decide)))))⟩)
          · have t243 := ne_no c191
            refine ur_ldA rfl rfl ?_
            refine ur_ldI rfl rfl ?_
            have t244 := fO_of (k := 1) ((d187 _ (ne_tg (hO188.fix 15 (by decide) rfl) (hu188.tm t1 (by decide)) (by decide))).trans hc1) rfl
            have t245 := fO_keep (a := 15) (ci := 1) (n := 11) (k := 1) hO0 hO188 hv188 (by decide) rfl (by decide) rfl (by decide)
            refine ur_inl rfl (rcv_of ((d187 _ (ne_tg (hO188.fix 15 (by decide) rfl) (hu188.tm t1 (by decide)) (by decide))).trans hc1)) (Nat.le_of_ble_eq_true rfl) (Nat.le_of_ble_eq_true rfl) (se_X1_wordAt hO188 _ (pre0.un hO0 hO188 hv188 (by decide) (by decide)) (fun w246 hr247 => ?_))
            obtain ⟨o248, rfl, k249, t250, t251⟩ := hr247
            show uRun _ (uCall Mt _) _ 54 (_, [(.inr (.inr o248))], _, _, _)
            refine ur_svAk [some (.inr (.inr (some 15))), some (.inr (.inr (some a1))), some (.inl a2), some (.inr (.inr o248))] rfl rfl ?_
            refine ur_ldA rfl rfl ?_
            cases o248 with
            | none =>
              refine ur_nulN rfl ?_
              have t253 := t250 rfl
              exfalso
              omega
            | some r252 =>
              refine ur_nulS rfl ?_
              have k254 := k249 _ rfl
              have t255 := t251 _ rfl
              refine ur_ldA rfl rfl ?_
              refine ur_ldA rfl rfl ?_
              obtain ⟨g272, f257, f258, f259, f260, f261, f262, f263, f264, f265, o269, f266, f267, f268, hc256, k270, k271⟩ := hO188.word k254.2
              refine ur_inl rfl (rcv_of hc256) (Nat.le_of_ble_eq_true rfl) (Nat.le_of_ble_eq_true rfl) (sd_X10_rootWord hO188 g272 k254.2 (fun w273 hr274 => ?_))
              obtain ⟨r275, rfl, k276, f277⟩ := hr274
              show uRun _ (uCall Mt _) _ 66 (_, [(.inr (.inr (some r275))), (.inr (.inr (some a1)))], _, _, _)
              refine ur_inl rfl (rcv_of hc189) (Nat.le_of_ble_eq_true rfl) (Nat.le_of_ble_eq_true rfl) (sd_X10_copyFrom hO188 g24 (hu188.tm t1 (by decide)) k276.1 k276.2 (fun w278 h282 hr279 hO282 hv282 hp280 hp281 => ?_))
              have hu282 : un [16, 2501, 22008, 22009, 22010, 22011, 22012] h188 h282 := hv282.mono (by decide)
              subst hr279
              show uRun _ (uCall Mt _) _ 69 (_, [], _, _, _)
              have t283 := fO_of (k := 1) (hv282.ko (n := 11) ((d187 _ (ne_tg (hO188.fix 15 (by decide) rfl) (hu188.tm t1 (by decide)) (by decide))).trans hc1) rfl (wid_f (by decide)) (by decide)) rfl
              obtain ⟨g300, f285, f286, f287, f288, f289, f290, f291, f292, f293, o297, f294, f295, f296, hc284, k298, k299⟩ := hO282.word (hu282.tm (hu188.tm t1 (by decide)) (by decide))
              have t301 := fO_of (k := 1) hc284 rfl
              refine ur_ldA rfl rfl ?_
              refine ur_get rfl (hv282.ko (n := 11) ((d187 _ (ne_tg (hO188.fix 15 (by decide) rfl) (hu188.tm t1 (by decide)) (by decide))).trans hc1) rfl (wid_f (by decide)) (by decide)) rfl ?_
              refine ur_ldA rfl rfl ?_
              refine ur_get rfl (hv282.ko (n := 11) ((d187 _ (ne_tg (hO188.fix 15 (by decide) rfl) (hu188.tm t1 (by decide)) (by decide))).trans hc1) rfl (wid_f (by decide)) (by decide)) rfl ?_
              refine ur_ldA rfl rfl ?_
              obtain ⟨xs303, hc302, hn304, he305⟩ := hO282.wor (hO282.fix 16 (by decide) rfl)
              refine ur_astAV (W := [16]) (m := 150) rfl hO282 hc302 hc284 (Or.inr ⟨rfl, g300, (hu282.tm (hu188.tm t1 (by decide)) (by decide))⟩) hn304 (by omega) (Or.inr (Or.inr (wid_fix (by decide) (by decide)))) (fun h308 hO308 hv308 d306 hc307 => ?_)
              have hu308 : un [16, 2501, 22008, 22009, 22010, 22011, 22012] h282 h308 := hv308.mono (by decide)
              refine ur_ldA rfl rfl ?_
              refine ur_dup rfl rfl ?_
              refine ur_get rfl ((d306 _ (by decide)).trans (hv282.ko (n := 11) ((d187 _ (ne_tg (hO188.fix 15 (by decide) rfl) (hu188.tm t1 (by decide)) (by decide))).trans hc1) rfl (wid_f (by decide)) (by decide))) rfl ?_
              have t309 := fO_of (k := 1) ((d306 _ (by decide)).trans (hv282.ko (n := 11) ((d187 _ (ne_tg (hO188.fix 15 (by decide) rfl) (hu188.tm t1 (by decide)) (by decide))).trans hc1) rfl (wid_f (by decide)) (by decide))) rfl
              refine ur_push rfl ?_
              refine ur_binV rfl (fun x310 e311 => ?_)
              have z312 := any_r f2
              have t313 := ti_add e311 (by omega) (by omega)
              refine ur_putV (W := [2501]) (fs' := [(.inr (.inr (some 16))), (.inl x310), (.inl f3), (.inl f4), (.inl f5), (.inr (.inr (some 17))), (.inr (.inr (some 18))), (.inr (.inr (some 19))), (.inr (.inr (some 20))), (.inr (.inr (some 21))), (.inr (.inr (some 22)))]) rfl hO308 ((d306 _ (by decide)).trans (hv282.ko (n := 11) ((d187 _ (ne_tg (hO188.fix 15 (by decide) rfl) (hu188.tm t1 (by decide)) (by decide))).trans hc1) rfl (wid_f (by decide)) (by decide))) (Nat.le_of_ble_eq_true rfl) rfl rfl ⟨rfl, _, _, _, _, rfl, by omega⟩ rfl (Or.inr (by show 1000 + 100 * wid 15 (101, 11) + 1 ∈ _; rw [(wid_f (by decide))]; decide)) (fun h315 hO315 hv315 d314 hc316 => ?_)
              have hu315 : un [16, 2501, 22008, 22009, 22010, 22011, 22012] h308 h315 := hv315.mono (by decide)
              refine ur_ldA rfl rfl ?_
              refine ur_ldA rfl rfl ?_
              have t317 := fO_keep (a := 15) (ci := 1) (n := 11) (k := 1) hO188 hO282 hv282 (by decide) rfl (by decide) rfl (by decide)
              have t318 := fO_keep (a := 15) (ci := 1) (n := 11) (k := 1) hO282 hO308 hv308 (by decide) rfl (by decide) rfl (by decide)
              refine ur_inl rfl (rcv_of hc316) (Nat.le_of_ble_eq_true rfl) (Nat.le_of_ble_eq_true rfl) (sf_X1_settleSpans hO315 g300 (hu315.tm (hu308.tm (hu282.tm (hu188.tm t1 (by decide)) (by decide)) (by decide)) (by decide)) (fun w319 h321 hr320 hO321 hv321 => ?_))
              have hu321 : un [16, 2501, 22008, 22009, 22010, 22011, 22012] h315 h321 := hv321.mono (by decide)
              subst hr320
              show uRun _ (uCall Mt _) _ 94 (_, [], _, _, _)
              have t322 := fO_of (k := 1) (hv321.ko (n := 11) hc316 rfl (wid_f (by decide)) (by decide)) rfl
              obtain ⟨g339, f324, f325, f326, f327, f328, f329, f330, f331, f332, o336, f333, f334, f335, hc323, k337, k338⟩ := hO321.word (hu321.tm (hu315.tm (hu308.tm (hu282.tm (hu188.tm t1 (by decide)) (by decide)) (by decide)) (by decide)) (by decide))
              have t340 := fO_of (k := 1) hc323 rfl
              refine ur_ldA rfl rfl ?_
              refine ur_get rfl (hv321.ko (n := 11) hc316 rfl (wid_f (by decide)) (by decide)) rfl ?_
              refine ur_push rfl ?_
              refine ur_binV rfl (fun x341 e342 => ?_)
              have z343 := any_r x310
              have t344 := ti_sub e342 (by omega) (by omega)
              have t345 := fO_keep (a := 15) (ci := 1) (n := 11) (k := 1) hO315 hO321 hv321 (by decide) rfl (by decide) rfl (by decide)
              have t346 := hv188.nW (by decide)
              have t347 := hv282.nW (by decide)
              have t348 := hv308.nW (by decide)
              have t349 := hv315.nW (by decide)
              have t350 := hv321.nW (by decide)
              have n351 := NA_push ((pre0.un hO0 hO188 hv188 (by decide) (by decide)).un hO188 hO282 hv282 (by decide) (by decide)) hc302 hc307 (by omega) (by omega) (d314 16 (by decide)) (show fO h315 15 1 = fO h282 15 1 + 1 by omega) hn304
              exact ur_ret rfl rfl (hQ _ _ ⟨_, rfl, by omega⟩ hO321 (hu188.tr (hu282.tr (hu308.tr (hu315.tr hu321)))) (by omega) (n351.un hO315 hO321 hv321 (by decide) (by decide)) (((((OWK.st d187 (Or.inr rfl)).tr hp280).tr (OWK.st d306 (Or.inl (by decide)))).tr (OWK.st d314 (Or.inl (by decide)))).tr (OWK.un hO315 hv321 (by decide))) (((arR_u hO315 hv321 (by decide)).trans (arR_c (d314 16 (by decide)))).trans (show arR h308 16 = (arR h0 16).set (fO h0 15 1).toNat (some a1) by rw [arR_of hc307, ← (show arR h282 16 = _ from arR_of hc302), show arR h282 16 = arR h0 16 from ((arR_u hO188 hv282 (by decide)).trans (arR_u hO0 hv188 (by decide))), show f2.toInt.toNat = (fO h0 15 1).toNat from congrArg Int.toNat (show f2.toInt = fO h0 15 1 by omega)])) ⟨fun q => by exfalso; omega, fun _ => ((fA_un hO315 hv321 g339 (hu315.tm (hu308.tm (hu282.tm (hu188.tm t1 (by decide)) (by decide)) (by decide)) (by decide)) (by decide) (by decide)).trans ((fA_un hO308 hv315 g339 (hu308.tm (hu282.tm (hu188.tm t1 (by decide)) (by decide)) (by decide)) (by decide) (by decide)).trans ((fA_un hO282 hv308 g339 (hu282.tm (hu188.tm t1 (by decide)) (by decide)) (by decide) (by decide)).trans (fA_un hO188 hv282 g339 (hu188.tm t1 (by decide)) (by decide) (by decide))))).trans (fA_of (k := 8) hc189)⟩ ⟨fun _ => by have w0 : wz h0 a2.toInt r252 := wz_c (arR_u hO0 hv188 (by decide)) t255.2; have TT188 := wz_ok hO0 w0; exact ⟨r252, r275, w0, rtz_c (fA_un hO0 hv188 TT188.1 TT188.2 (by decide) (by decide)) f277, ((fA_un hO315 hv321 g339 (hu315.tm (hu308.tm (hu282.tm (hu188.tm t1 (by decide)) (by decide)) (by decide)) (by decide)) (by decide) (by decide)).trans ((fA_un hO308 hv315 g339 (hu308.tm (hu282.tm (hu188.tm t1 (by decide)) (by decide)) (by decide)) (by decide) (by decide)).trans (fA_un hO282 hv308 g339 (hu282.tm (hu188.tm t1 (by decide)) (by decide)) (by decide) (by decide)))).trans hp281⟩, fun q => by exfalso; omega⟩)
  · have t352 := lt_no c26
    exfalso
    omega

set_option maxRecDepth 20000 in
set_option maxHeartbeats 4000000 in
theorem se_X11_word {d kc ks : Nat} {h0 : aH} {Q : Option aV → aH → Prop} (hO0 : OK h0) (a1 : Int32) (a2 : Int32) (a3 : Int32) (pre0 : NA h0) (hQ : ∀ r h', (∃ x : Int32, r = some (.inl x) ∧ (¬ ((0 ≤ a1.toInt ∧ a1.toInt / 10000 ≤ 8 ∧ a1.toInt / 100 % 100 ≤ 7 ∧ 0 ≤ a2.toInt ∧ a2.toInt ≤ 400) ∧ (a1.toInt % 100 = 99 ∨ (a1.toInt % 100 ≤ 19 ∧ gI h0 17 (a1.toInt % 100) ≠ -1)) ∧ ((a1.toInt / 100 % 100 = 1 ∨ a1.toInt / 100 % 100 = 6 → 0 ≤ a3.toInt ∧ a3.toInt ≤ 23) ∧ (a1.toInt / 100 % 100 = 2 ∨ a1.toInt / 100 % 100 = 7 → 0 ≤ a3.toInt ∧ a3.toInt ≤ 1) ∧ (a1.toInt / 100 % 100 = 3 → 0 ≤ a3.toInt ∧ a3.toInt < fO h0 15 1))) ∧ x.toInt = -1 ∧ fO h' 15 1 = fO h0 15 1 ∨ ((0 ≤ a1.toInt ∧ a1.toInt / 10000 ≤ 8 ∧ a1.toInt / 100 % 100 ≤ 7 ∧ 0 ≤ a2.toInt ∧ a2.toInt ≤ 400) ∧ (a1.toInt % 100 = 99 ∨ (a1.toInt % 100 ≤ 19 ∧ gI h0 17 (a1.toInt % 100) ≠ -1)) ∧ ((a1.toInt / 100 % 100 = 1 ∨ a1.toInt / 100 % 100 = 6 → 0 ≤ a3.toInt ∧ a3.toInt ≤ 23) ∧ (a1.toInt / 100 % 100 = 2 ∨ a1.toInt / 100 % 100 = 7 → 0 ≤ a3.toInt ∧ a3.toInt ≤ 1) ∧ (a1.toInt / 100 % 100 = 3 → 0 ≤ a3.toInt ∧ a3.toInt < fO h0 15 1))) ∧ 150 ≤ fO h0 15 1 ∧ x.toInt = -3 ∧ fO h' 15 1 = fO h0 15 1 ∨ ((0 ≤ a1.toInt ∧ a1.toInt / 10000 ≤ 8 ∧ a1.toInt / 100 % 100 ≤ 7 ∧ 0 ≤ a2.toInt ∧ a2.toInt ≤ 400) ∧ (a1.toInt % 100 = 99 ∨ (a1.toInt % 100 ≤ 19 ∧ gI h0 17 (a1.toInt % 100) ≠ -1)) ∧ ((a1.toInt / 100 % 100 = 1 ∨ a1.toInt / 100 % 100 = 6 → 0 ≤ a3.toInt ∧ a3.toInt ≤ 23) ∧ (a1.toInt / 100 % 100 = 2 ∨ a1.toInt / 100 % 100 = 7 → 0 ≤ a3.toInt ∧ a3.toInt ≤ 1) ∧ (a1.toInt / 100 % 100 = 3 → 0 ≤ a3.toInt ∧ a3.toInt < fO h0 15 1))) ∧ fO h0 15 1 < 150 ∧ x.toInt = fO h0 15 1 ∧ fO h' 15 1 = fO h0 15 1 + 1)) → OK h' → un [16, 45, 46, 2501, 9010, 22005, 22006, 22007, 22008, 22009, 22010, 22011, 22012] h0 h' → (nW h' ≤ nW h0 + 1) → (NA h') → (KWc h0 h') → (imG (fO h' 15 1 = fO h0 15 1 + 1) (∃ z re mo, NWz h' (fO h0 15 1) z (a1.toInt / 100 % 100) (a1.toInt / 10000) re a2.toInt (fO h0 15 2) (fO h0 15 3) (fO h0 15 4) mo ∧ ((a1.toInt % 100 = 99 ∧ re = -1) ∨ (a1.toInt % 100 ≠ 99 ∧ re = a1.toInt % 100)) ∧ (((a1.toInt / 100 % 100 = 0 ∨ a1.toInt / 100 % 100 = 4 ∨ a1.toInt / 100 % 100 = 5) ∧ mo = -1) ∨ (¬ (a1.toInt / 100 % 100 = 0 ∨ a1.toInt / 100 % 100 = 4 ∨ a1.toInt / 100 % 100 = 5) ∧ mo = a3.toInt)) ∧ (a1.toInt / 100 % 100 ≠ 3 → fA h' z 9 = some (.inr (.inr none))) ∧ (a1.toInt / 100 % 100 = 3 → ∃ zs r, wz h0 a3.toInt zs ∧ rtz h0 zs r ∧ fA h' z 9 = some (.inr (.inr (some r)))))) → Q r h') : uCall Mt (d + 7) 134 [(.inr (.inr (some 0))), (.inl a1), (.inl a2), (.inl a3)] h0 kc ks Q := by
  have l_m3 : ((-3) : Int32).toInt = -3 := by decide
  have l_m1 : ((-1) : Int32).toInt = -1 := by decide
  have l_0 : ((0) : Int32).toInt = 0 := by decide
  have l_8 : ((8) : Int32).toInt = 8 := by decide
  have l_99 : ((99) : Int32).toInt = 99 := by decide
  have l_100 : ((100) : Int32).toInt = 100 := by decide
  have l_150 : ((150) : Int32).toInt = 150 := by decide
  have l_400 : ((400) : Int32).toInt = 400 := by decide
  have l_10000 : ((10000) : Int32).toInt = 10000 := by decide
  refine uc_ink [some (.inr (.inr (some 0))), some (.inl a1), some (.inl a2), some (.inl a3), none, none, none, none] mt_134 (Nat.le_of_ble_eq_true rfl) rfl ?_
  obtain ⟨f2, f3, f4, f5, hc1, k6⟩ := ok_15 hO0
  have t7 := fO_of (k := 1) hc1 rfl
  have t8 := fO_of (k := 2) hc1 rfl
  have t9 := fO_of (k := 3) hc1 rfl
  have t10 := fO_of (k := 4) hc1 rfl
  refine ur_ldI rfl rfl ?_
  refine ur_push rfl ?_
  refine ur_divV rfl (by decide) (fun x11 e12 => ?_)
  have z13 := any_r a1
  have t14 : 0 ≤ a1.toInt → x11.toInt = a1.toInt / 10000 := fun q => ti_div e12 l_10000 (by decide) q
  refine ur_svIk [some (.inr (.inr (some 0))), some (.inl a1), some (.inl a2), some (.inl a3), some (.inl x11), none, none, none] rfl rfl ?_
  refine ur_ldI rfl rfl ?_
  refine ur_push rfl ?_
  refine ur_divV rfl (by decide) (fun x15 e16 => ?_)
  have t17 : 0 ≤ a1.toInt → x15.toInt = a1.toInt / 100 := fun q => ti_div e16 l_100 (by decide) q
  refine ur_push rfl ?_
  refine ur_divV rfl (by decide) (fun x18 e19 => ?_)
  have z20 := any_r x15
  have t21 : 0 ≤ x15.toInt → x18.toInt = x15.toInt % 100 := fun q => ti_rem e19 l_100 (by decide) q
  refine ur_svIk [some (.inr (.inr (some 0))), some (.inl a1), some (.inl a2), some (.inl a3), some (.inl x11), some (.inl x18), none, none] rfl rfl ?_
  refine ur_ldI rfl rfl ?_
  refine ur_push rfl ?_
  refine ur_divV rfl (by decide) (fun x22 e23 => ?_)
  have t24 : 0 ≤ a1.toInt → x22.toInt = a1.toInt % 100 := fun q => ti_rem e23 l_100 (by decide) q
  refine ur_svIk [some (.inr (.inr (some 0))), some (.inl a1), some (.inl a2), some (.inl a3), some (.inl x11), some (.inl x18), some (.inl x22), none] rfl rfl ?_
  refine ur_ldI rfl rfl ?_
  have t25 : 0 ≤ a1.toInt → gI h0 17 (a1.toInt % 100) = gI h0 17 x22.toInt := fun q => by rw [show a1.toInt % 100 = x22.toInt by omega]
  refine ur_if1 rfl (fun c26 => ?_) (fun c26 => ?_)
  · have t27 := lt_to c26
    refine ur_push rfl ?_
    exact ur_ret rfl rfl (hQ _ _ ⟨_, rfl, Or.inl ⟨fun q => by omega, by omega, by omega⟩⟩ hO0 un.rf (by omega) pre0 KWc.rf (fun q => by exfalso; omega))
  · have t28 := lt_no c26
    replace t14 := t14 (by omega)
    replace t17 := t17 (by omega)
    replace t21 := t21 (by omega)
    replace t24 := t24 (by omega)
    replace t25 := t25 (by omega)
    have h29 : x11.toInt = a1.toInt / 10000 := by omega
    have h30 : x18.toInt = a1.toInt / 100 % 100 := by omega
    have h31 : x22.toInt = a1.toInt % 100 := by omega
    refine ur_ldI rfl rfl ?_
    refine ur_callv rfl rfl (Nat.le_of_ble_eq_true rfl) (Nat.le_of_ble_eq_true rfl) rfl (sp_isPpl _ _) ?_
    refine ur_eqB rfl (fun c34 => ?_) (fun c34 => ?_)
    · have t35 := wi_noL c34 l_0 l_8
      refine ur_push rfl ?_
      exact ur_ret rfl rfl (hQ _ _ ⟨_, rfl, Or.inl ⟨fun q => by omega, by omega, by omega⟩⟩ hO0 un.rf (by omega) pre0 KWc.rf (fun q => by exfalso; omega))
    · have t36 := wi_toL c34 l_0 l_8
      refine ur_ldI rfl rfl ?_
      refine ur_push rfl ?_
      refine ur_if2 rfl (fun c37 => ?_) (fun c37 => ?_)
      · have t38 := le_to c37
        refine ur_push rfl ?_
        exact ur_ret rfl rfl (hQ _ _ ⟨_, rfl, Or.inl ⟨fun q => by omega, by omega, by omega⟩⟩ hO0 un.rf (by omega) pre0 KWc.rf (fun q => by exfalso; omega))
      · have t39 := le_no c37
        refine ur_ldI rfl rfl ?_
        refine ur_push rfl ?_
        refine ur_push rfl ?_
        refine ur_callv rfl rfl (Nat.le_of_ble_eq_true rfl) (Nat.le_of_ble_eq_true rfl) rfl (sp_within _ _ _ _ _) ?_
        refine ur_neB rfl (fun c42 => ?_) (fun c42 => ?_)
        · have t43 := wi_toL c42 l_0 l_400
          refine ur_ldI rfl rfl ?_
          refine ur_push rfl ?_
          refine ur_if2 rfl (fun c44 => ?_) (fun c44 => ?_)
          · have t45 := eq_to c44
            refine ur_ldA rfl rfl ?_
            obtain ⟨hc46, k47⟩ := ok_0 hO0
            refine ur_get rfl hc46 rfl ?_
            refine ur_ldI rfl rfl ?_
            refine ur_ldI rfl rfl ?_
            refine ur_inl rfl (rcv_of hc1) (Nat.le_of_ble_eq_true rfl) (Nat.le_of_ble_eq_true rfl) (sd_X1_canBear hO0 _ _ pre0 (fun w48 hr49 => ?_))
            obtain ⟨b50, rfl, t51, t52⟩ := hr49
            show uRun _ (uCall Mt _) _ 85 (_, [(.inl (bi b50))], _, _, _)
            refine ur_neB rfl (fun c53 => ?_) (fun c53 => ?_)
            · have t54 := t51 c53
              clear t51 t52
              refine ur_ldA rfl rfl ?_
              refine ur_get rfl hc46 rfl ?_
              refine ur_get rfl hc1 rfl ?_
              refine ur_push rfl ?_
              refine ur_if2 rfl (fun c55 => ?_) (fun c55 => ?_)
              · have t56 := lt_to c55
                refine ur_new rfl (Nat.le_of_ble_eq_true rfl) ?_
                refine ur_dup rfl rfl ?_
                refine ur_ldA rfl rfl ?_
                refine ur_get rfl (hs_ap hc46) rfl ?_
                refine ur_get rfl (hs_ap hc1) rfl ?_
                refine ur_ldI rfl rfl ?_
                refine ur_ldI rfl rfl ?_
                refine ur_ldI rfl rfl ?_
                refine ur_push rfl ?_
                refine ur_if2 rfl (fun c58 => ?_) (fun c58 => ?_)
                · have t59 := ne_to c58
                  exfalso
                  omega
                · have t60 := ne_no c58
                  refine ur_push rfl ?_
                  refine ur_go rfl ?_
                  refine ur_ldI rfl rfl ?_
                  refine ur_inl rfl (rcv_of ap_0) (Nat.le_of_ble_eq_true rfl) (Nat.le_of_ble_eq_true rfl) (sd_newWord hO0 _ _ _ _ _ (by show (0 ≤ f2.toInt ∧ f2.toInt ≤ 149) ∧ (0 ≤ x18.toInt ∧ x18.toInt ≤ 7) ∧ (0 ≤ x11.toInt ∧ x11.toInt ≤ 8) ∧ -1 ≤ ((-1) : Int32).toInt ∧ ((-1) : Int32).toInt ≤ 19; omega) (fun w61 h64 hr62 hO64 hv64 k63 hn67 hx65 => ?_))
                  have hc66 : h64[h0.length]? = some (.inl (10, [.inl f2, .inl x18, .inl x11, .inl (-1), .inl a2, .inl 0, .inl 0, .inl 0, .inl (-1), .inr (.inr none), .inl 0, .inl 0, .inl 0])) := by rw [hx65]; exact ap_0
                  have hu64 : un [16, 45, 46, 2501, 9010, 22005, 22006, 22007, 22008, 22009, 22010, 22011, 22012] h0 h64 := hv64.mono (by decide)
                  subst hr62
                  show uRun _ (uCall Mt _) _ 138 (_, [(.inr (.inr (some h0.length)))], _, _, _)
                  refine ur_svAk [some (.inr (.inr (some 0))), some (.inl a1), some (.inl a2), some (.inl a3), some (.inl x11), some (.inl x18), some (.inl x22), some (.inr (.inr (some h0.length)))] rfl rfl ?_
                  refine ur_ldA rfl rfl ?_
                  refine ur_ldA rfl rfl ?_
                  refine ur_get rfl (hv64.ko (n := 8) hc46 rfl (wid_f (by decide)) (by decide)) rfl ?_
                  refine ur_get rfl (hv64.ko (n := 11) hc1 rfl (wid_f (by decide)) (by decide)) rfl ?_
                  have t68 := fO_of (k := 1) (hv64.ko (n := 11) hc1 rfl (wid_f (by decide)) (by decide)) rfl
                  have t69 := fO_of (k := 2) (hv64.ko (n := 11) hc1 rfl (wid_f (by decide)) (by decide)) rfl
                  have t70 := fO_of (k := 3) (hv64.ko (n := 11) hc1 rfl (wid_f (by decide)) (by decide)) rfl
                  have t71 := fO_of (k := 4) (hv64.ko (n := 11) hc1 rfl (wid_f (by decide)) (by decide)) rfl
                  refine ur_ldA rfl rfl ?_
                  refine ur_get rfl (hv64.ko (n := 8) hc46 rfl (wid_f (by decide)) (by decide)) rfl ?_
                  refine ur_get rfl (hv64.ko (n := 11) hc1 rfl (wid_f (by decide)) (by decide)) rfl ?_
                  refine ur_ldA rfl rfl ?_
                  refine ur_get rfl (hv64.ko (n := 8) hc46 rfl (wid_f (by decide)) (by decide)) rfl ?_
                  refine ur_get rfl (hv64.ko (n := 11) hc1 rfl (wid_f (by decide)) (by decide)) rfl ?_
                  obtain ⟨g88, f73, f74, f75, f76, f77, f78, f79, f80, f81, o85, f82, f83, f84, hc72, k86, k87⟩ := hO64.word k63.2
                  have t89 := fO_keep (a := 15) (ci := 1) (n := 11) (k := 1) hO0 hO64 hv64 (by decide) rfl (by decide) rfl (by decide)
                  have t90 := fO_keep (a := 15) (ci := 1) (n := 11) (k := 2) hO0 hO64 hv64 (by decide) rfl (by decide) rfl (by decide)
                  have t91 := fO_keep (a := 15) (ci := 1) (n := 11) (k := 3) hO0 hO64 hv64 (by decide) rfl (by decide) rfl (by decide)
                  have t92 := fO_keep (a := 15) (ci := 1) (n := 11) (k := 4) hO0 hO64 hv64 (by decide) rfl (by decide) rfl (by decide)
                  refine ur_inl rfl (rcv_of hc72) (Nat.le_of_ble_eq_true rfl) (Nat.le_of_ble_eq_true rfl) (sd_X10_dateIt hO64 g88 k63.2 _ _ _ (fun w93 h97 hr94 hO97 hv97 hp95 hp96 => ?_))
                  have hu97 : un [16, 45, 46, 2501, 9010, 22005, 22006, 22007, 22008, 22009, 22010, 22011, 22012] h64 h97 := hv97.mono (by decide)
                  subst hr94
                  show uRun _ (uCall Mt _) _ 166 (_, [], _, _, _)
                  have t98 := fO_of (k := 1) (hv97.ko (n := 11) (hv64.ko (n := 11) hc1 rfl (wid_f (by decide)) (by decide)) rfl (wid_f (by decide)) (by decide)) rfl
                  have t99 := fO_of (k := 2) (hv97.ko (n := 11) (hv64.ko (n := 11) hc1 rfl (wid_f (by decide)) (by decide)) rfl (wid_f (by decide)) (by decide)) rfl
                  have t100 := fO_of (k := 3) (hv97.ko (n := 11) (hv64.ko (n := 11) hc1 rfl (wid_f (by decide)) (by decide)) rfl (wid_f (by decide)) (by decide)) rfl
                  have t101 := fO_of (k := 4) (hv97.ko (n := 11) (hv64.ko (n := 11) hc1 rfl (wid_f (by decide)) (by decide)) rfl (wid_f (by decide)) (by decide)) rfl
                  refine ur_ldA rfl rfl ?_
                  refine ur_get rfl (hv97.ko (n := 8) (hv64.ko (n := 8) hc46 rfl (wid_f (by decide)) (by decide)) rfl (wid_f (by decide)) (by decide)) rfl ?_
                  obtain ⟨f103, f104, hc102, k105⟩ := ok_41 hO97
                  have t106 := fO_keep (a := 15) (ci := 1) (n := 11) (k := 1) hO64 hO97 hv97 (by decide) rfl (by decide) rfl (by decide)
                  have t107 := fO_keep (a := 15) (ci := 1) (n := 11) (k := 2) hO64 hO97 hv97 (by decide) rfl (by decide) rfl (by decide)
                  have t108 := fO_keep (a := 15) (ci := 1) (n := 11) (k := 3) hO64 hO97 hv97 (by decide) rfl (by decide) rfl (by decide)
                  have t109 := fO_keep (a := 15) (ci := 1) (n := 11) (k := 4) hO64 hO97 hv97 (by decide) rfl (by decide) rfl (by decide)
                  refine ur_inl rfl (rcv_of hc102) (Nat.le_of_ble_eq_true rfl) (Nat.le_of_ble_eq_true rfl) (sf_X7_forgetWeights hO97  (fun w110 h112 hr111 hO112 hv112 => ?_))
                  have hu112 : un [16, 45, 46, 2501, 9010, 22005, 22006, 22007, 22008, 22009, 22010, 22011, 22012] h97 h112 := hv112.mono (by decide)
                  subst hr111
                  show uRun _ (uCall Mt _) _ 173 (_, [], _, _, _)
                  have t113 := fO_of (k := 1) (hv112.ko (n := 11) (hv97.ko (n := 11) (hv64.ko (n := 11) hc1 rfl (wid_f (by decide)) (by decide)) rfl (wid_f (by decide)) (by decide)) rfl (wid_f (by decide)) (by decide)) rfl
                  have t114 := fO_of (k := 2) (hv112.ko (n := 11) (hv97.ko (n := 11) (hv64.ko (n := 11) hc1 rfl (wid_f (by decide)) (by decide)) rfl (wid_f (by decide)) (by decide)) rfl (wid_f (by decide)) (by decide)) rfl
                  have t115 := fO_of (k := 3) (hv112.ko (n := 11) (hv97.ko (n := 11) (hv64.ko (n := 11) hc1 rfl (wid_f (by decide)) (by decide)) rfl (wid_f (by decide)) (by decide)) rfl (wid_f (by decide)) (by decide)) rfl
                  have t116 := fO_of (k := 4) (hv112.ko (n := 11) (hv97.ko (n := 11) (hv64.ko (n := 11) hc1 rfl (wid_f (by decide)) (by decide)) rfl (wid_f (by decide)) (by decide)) rfl (wid_f (by decide)) (by decide)) rfl
                  refine ur_ldA rfl rfl ?_
                  refine ur_get rfl (hv112.ko (n := 8) (hv97.ko (n := 8) (hv64.ko (n := 8) hc46 rfl (wid_f (by decide)) (by decide)) rfl (wid_f (by decide)) (by decide)) rfl (wid_f (by decide)) (by decide)) rfl ?_
                  refine ur_ldA rfl rfl ?_
                  refine ur_ldI rfl rfl ?_
                  have k117 : fO h112 h0.length 1 = (x18 : Int32).toInt := ((fO_kw hO97 hO112 hv112 g88 (hu97.tm k63.2 (by decide)) rfl (by decide)).trans ((fO_kw hO64 hO97 hv97 g88 k63.2 rfl (by decide)).trans (fO_of (k := 1) hc66 rfl)))
                  have t118 := fO_keep (a := 15) (ci := 1) (n := 11) (k := 1) hO97 hO112 hv112 (by decide) rfl (by decide) rfl (by decide)
                  have t119 := fO_keep (a := 15) (ci := 1) (n := 11) (k := 2) hO97 hO112 hv112 (by decide) rfl (by decide) rfl (by decide)
                  have t120 := fO_keep (a := 15) (ci := 1) (n := 11) (k := 3) hO97 hO112 hv112 (by decide) rfl (by decide) rfl (by decide)
                  have t121 := fO_keep (a := 15) (ci := 1) (n := 11) (k := 4) hO97 hO112 hv112 (by decide) rfl (by decide) rfl (by decide)
                  refine ur_inl rfl (rcv_of (hv112.ko (n := 11) (hv97.ko (n := 11) (hv64.ko (n := 11) hc1 rfl (wid_f (by decide)) (by decide)) rfl (wid_f (by decide)) (by decide)) rfl (wid_f (by decide)) (by decide))) (Nat.le_of_ble_eq_true rfl) (Nat.le_of_ble_eq_true rfl) (se_X1_addWord hO112 g88 (hu112.tm (hu97.tm k63.2 (by decide)) (by decide)) _ (((pre0.un hO0 hO64 hv64 (by decide) (by decide)).un hO64 hO97 hv97 (by decide) (by decide)).un hO97 hO112 hv112 (by decide) (by decide)) (by omega) (by rw [k117]; omega) (fun w122 h130 hr123 hO130 hv130 hp124 hp125 hp126 hp127 hp128 hp129 => ?_))
                  have hu130 : un [16, 45, 46, 2501, 9010, 22005, 22006, 22007, 22008, 22009, 22010, 22011, 22012] h112 h130 := hv130.mono (by decide)
                  obtain ⟨x131, rfl, t132⟩ := hr123
                  show uRun _ (uCall Mt _) _ 183 (_, [(.inl x131)], _, _, _)
                  obtain ⟨f134, f135, f136, f137, hc133, k138⟩ := ok_15 hO130
                  have t139 := fO_of (k := 1) hc133 rfl
                  have t140 := fO_of (k := 2) hc133 rfl
                  have t141 := fO_of (k := 3) hc133 rfl
                  have t142 := fO_of (k := 4) hc133 rfl
                  have t143 := fO_keep (a := 15) (ci := 1) (n := 11) (k := 2) hO112 hO130 hv130 (by decide) rfl (by decide) rfl (by decide)
                  have t144 := fO_keep (a := 15) (ci := 1) (n := 11) (k := 3) hO112 hO130 hv130 (by decide) rfl (by decide) rfl (by decide)
                  have t145 := fO_keep (a := 15) (ci := 1) (n := 11) (k := 4) hO112 hO130 hv130 (by decide) rfl (by decide) rfl (by decide)
                  have t146 := hv97.nW (by decide)
                  have t147 := hv112.nW (by decide)
                  have t148 := hv130.nW (by decide)
                  have w149 : arR h130 16 = (arR h0 16).set (fO h0 15 1).toNat (some h0.length) := by rw [hp127, show arR h112 16 = arR h0 16 from ((arR_u hO97 hv112 (by decide)).trans ((arR_u hO64 hv97 (by decide)).trans (arR_u hO0 hv64 (by decide)))), show fO h112 15 1 = fO h0 15 1 by omega]
                  have w150 : OWK h0 h130 (h0.length) := ((((OWK.un hO0 hv64 (by decide)).tr hp95).tr (OWK.un hO97 hv112 (by decide))).tr hp126)
                  have w151 := KWc.push hO0 w150 rfl w149 (by omega)
                  have w152 : fO h130 (h0.length) 0 = (f2 : Int32).toInt := fO_fA (((fA_un hO112 hv130 g88 (hu112.tm (hu97.tm k63.2 (by decide)) (by decide)) (by decide) (by decide)).trans ((fA_un hO97 hv112 g88 (hu97.tm k63.2 (by decide)) (by decide) (by decide)).trans (fA_un hO64 hv97 g88 k63.2 (by decide) (by decide)))).trans (fA_of (k := 0) hc66))
                  have w153 : fO h130 (h0.length) 1 = (x18 : Int32).toInt := fO_fA (((fA_un hO112 hv130 g88 (hu112.tm (hu97.tm k63.2 (by decide)) (by decide)) (by decide) (by decide)).trans ((fA_un hO97 hv112 g88 (hu97.tm k63.2 (by decide)) (by decide) (by decide)).trans (fA_un hO64 hv97 g88 k63.2 (by decide) (by decide)))).trans (fA_of (k := 1) hc66))
                  have w154 : fO h130 (h0.length) 2 = (x11 : Int32).toInt := fO_fA (((fA_un hO112 hv130 g88 (hu112.tm (hu97.tm k63.2 (by decide)) (by decide)) (by decide) (by decide)).trans ((fA_un hO97 hv112 g88 (hu97.tm k63.2 (by decide)) (by decide) (by decide)).trans (fA_un hO64 hv97 g88 k63.2 (by decide) (by decide)))).trans (fA_of (k := 2) hc66))
                  have w155 : fO h130 (h0.length) 3 = ((-1) : Int32).toInt := fO_fA (((fA_un hO112 hv130 g88 (hu112.tm (hu97.tm k63.2 (by decide)) (by decide)) (by decide) (by decide)).trans ((fA_un hO97 hv112 g88 (hu97.tm k63.2 (by decide)) (by decide) (by decide)).trans (fA_un hO64 hv97 g88 k63.2 (by decide) (by decide)))).trans (fA_of (k := 3) hc66))
                  have w156 : fO h130 (h0.length) 4 = (a2 : Int32).toInt := fO_fA (((fA_un hO112 hv130 g88 (hu112.tm (hu97.tm k63.2 (by decide)) (by decide)) (by decide) (by decide)).trans ((fA_un hO97 hv112 g88 (hu97.tm k63.2 (by decide)) (by decide) (by decide)).trans (fA_un hO64 hv97 g88 k63.2 (by decide) (by decide)))).trans (fA_of (k := 4) hc66))
                  have w157 : fO h130 (h0.length) 5 = (f3 : Int32).toInt := fO_fA (((fA_un hO112 hv130 g88 (hu112.tm (hu97.tm k63.2 (by decide)) (by decide)) (by decide) (by decide)).trans (fA_un hO97 hv112 g88 (hu97.tm k63.2 (by decide)) (by decide) (by decide))).trans hp96.1)
                  have w158 : fO h130 (h0.length) 6 = (f4 : Int32).toInt := fO_fA (((fA_un hO112 hv130 g88 (hu112.tm (hu97.tm k63.2 (by decide)) (by decide)) (by decide) (by decide)).trans (fA_un hO97 hv112 g88 (hu97.tm k63.2 (by decide)) (by decide) (by decide))).trans hp96.2.1)
                  have w159 : fO h130 (h0.length) 7 = (f5 : Int32).toInt := fO_fA (((fA_un hO112 hv130 g88 (hu112.tm (hu97.tm k63.2 (by decide)) (by decide)) (by decide) (by decide)).trans (fA_un hO97 hv112 g88 (hu97.tm k63.2 (by decide)) (by decide) (by decide))).trans hp96.2.2)
                  have w162 := k117.trans h30
                  have w160 := mo_G hp128 w162 (((fA_un hO97 hv112 g88 (hu97.tm k63.2 (by decide)) (by decide) (by decide)).trans (fA_un hO64 hv97 g88 k63.2 (by decide) (by decide))).trans (fA_of (k := 8) hc66)) (by decide)
                  have w161 := cr_G (h0 := h0) hp129 w162 (((fA_un hO97 hv112 g88 (hu97.tm k63.2 (by decide)) (by decide) (by decide)).trans (fA_un hO64 hv97 g88 k63.2 (by decide) (by decide))).trans (fA_of (k := 9) hc66)) ((arR_u hO97 hv112 (by decide)).trans ((arR_u hO64 hv97 (by decide)).trans (arR_u hO0 hv64 (by decide)))) (((OWK.un hO0 hv64 (by decide)).tr hp95).tr (OWK.un hO97 hv112 (by decide))) hO0 rfl
                  exact ur_ret rfl rfl (hQ _ _ ⟨_, rfl, Or.inr (Or.inr ⟨⟨⟨by omega, by omega, by omega, by omega, by omega⟩, by omega, fun q => by omega, fun q => by omega, fun q => by omega⟩, by omega, by omega, by omega⟩)⟩ hO130 (hu64.tr (hu97.tr (hu112.tr hu130))) (by omega) hp125 w151.1 (fun _ => ⟨h0.length, _, _, ⟨w151.2, by omega, w153.trans h30, w154.trans h29, w155, w156, by omega, by omega, by omega, rfl⟩, Or.inl ⟨by omega, by decide⟩, w160, w161.1, w161.2⟩))
              · have t163 := lt_no c55
                refine ur_push rfl ?_
                exact ur_ret rfl rfl (hQ _ _ ⟨_, rfl, Or.inr (Or.inl ⟨⟨⟨by omega, by omega, by omega, by omega, by omega⟩, by omega, fun q => by omega, fun q => by omega, fun q => by omega⟩, by omega, by omega, by omega⟩)⟩ hO0 un.rf (by omega) pre0 KWc.rf (fun q => by exfalso; omega))
            · have t164 := t52 c53
              clear t51 t52
              refine ur_push rfl ?_
              exact ur_ret rfl rfl (hQ _ _ ⟨_, rfl, Or.inl ⟨fun q => by omega, by omega, by omega⟩⟩ hO0 un.rf (by omega) pre0 KWc.rf (fun q => by exfalso; omega))
          · have t165 := eq_no c44
            refine ur_ldA rfl rfl ?_
            obtain ⟨hc166, k167⟩ := ok_0 hO0
            refine ur_get rfl hc166 rfl ?_
            refine ur_ldI rfl rfl ?_
            refine ur_inl rfl (rcv_of hc1) (Nat.le_of_ble_eq_true rfl) (Nat.le_of_ble_eq_true rfl) (sd_X1_isToldReign hO0 _ (fun w168 hr169 => ?_))
            obtain ⟨b170, rfl, t171, t172⟩ := hr169
            show uRun _ (uCall Mt _) _ 70 (_, [(.inl (bi b170))], _, _, _)
            refine ur_neB rfl (fun c173 => ?_) (fun c173 => ?_)
            · have t174 := t171 c173
              clear t171 t172
              refine ur_ldA rfl rfl ?_
              refine ur_get rfl hc166 rfl ?_
              refine ur_ldI rfl rfl ?_
              refine ur_ldI rfl rfl ?_
              refine ur_inl rfl (rcv_of hc1) (Nat.le_of_ble_eq_true rfl) (Nat.le_of_ble_eq_true rfl) (sd_X1_canBear hO0 _ _ pre0 (fun w175 hr176 => ?_))
              obtain ⟨b177, rfl, t178, t179⟩ := hr176
              show uRun _ (uCall Mt _) _ 85 (_, [(.inl (bi b177))], _, _, _)
              refine ur_neB rfl (fun c180 => ?_) (fun c180 => ?_)
              · have t181 := t178 c180
                clear t178 t179
                refine ur_ldA rfl rfl ?_
                refine ur_get rfl hc166 rfl ?_
                refine ur_get rfl hc1 rfl ?_
                refine ur_push rfl ?_
                refine ur_if2 rfl (fun c182 => ?_) (fun c182 => ?_)
                · have t183 := lt_to c182
                  refine ur_new rfl (Nat.le_of_ble_eq_true rfl) ?_
                  refine ur_dup rfl rfl ?_
                  refine ur_ldA rfl rfl ?_
                  refine ur_get rfl (hs_ap hc166) rfl ?_
                  refine ur_get rfl (hs_ap hc1) rfl ?_
                  refine ur_ldI rfl rfl ?_
                  refine ur_ldI rfl rfl ?_
                  refine ur_ldI rfl rfl ?_
                  refine ur_push rfl ?_
                  refine ur_if2 rfl (fun c185 => ?_) (fun c185 => ?_)
                  · have t186 := ne_to c185
                    refine ur_ldI rfl rfl ?_
                    refine ur_ldI rfl rfl ?_
                    refine ur_inl rfl (rcv_of ap_0) (Nat.le_of_ble_eq_true rfl) (Nat.le_of_ble_eq_true rfl) (sd_newWord hO0 _ _ _ _ _ (by show (0 ≤ f2.toInt ∧ f2.toInt ≤ 149) ∧ (0 ≤ x18.toInt ∧ x18.toInt ≤ 7) ∧ (0 ≤ x11.toInt ∧ x11.toInt ≤ 8) ∧ -1 ≤ x22.toInt ∧ x22.toInt ≤ 19; omega) (fun w187 h190 hr188 hO190 hv190 k189 hn193 hx191 => ?_))
                    have hc192 : h190[h0.length]? = some (.inl (10, [.inl f2, .inl x18, .inl x11, .inl x22, .inl a2, .inl 0, .inl 0, .inl 0, .inl (-1), .inr (.inr none), .inl 0, .inl 0, .inl 0])) := by rw [hx191]; exact ap_0
                    have hu190 : un [16, 45, 46, 2501, 9010, 22005, 22006, 22007, 22008, 22009, 22010, 22011, 22012] h0 h190 := hv190.mono (by decide)
                    subst hr188
                    show uRun _ (uCall Mt _) _ 138 (_, [(.inr (.inr (some h0.length)))], _, _, _)
                    refine ur_svAk [some (.inr (.inr (some 0))), some (.inl a1), some (.inl a2), some (.inl a3), some (.inl x11), some (.inl x18), some (.inl x22), some (.inr (.inr (some h0.length)))] rfl rfl ?_
                    refine ur_ldA rfl rfl ?_
                    refine ur_ldA rfl rfl ?_
                    refine ur_get rfl (hv190.ko (n := 8) hc166 rfl (wid_f (by decide)) (by decide)) rfl ?_
                    refine ur_get rfl (hv190.ko (n := 11) hc1 rfl (wid_f (by decide)) (by decide)) rfl ?_
                    have t194 := fO_of (k := 1) (hv190.ko (n := 11) hc1 rfl (wid_f (by decide)) (by decide)) rfl
                    have t195 := fO_of (k := 2) (hv190.ko (n := 11) hc1 rfl (wid_f (by decide)) (by decide)) rfl
                    have t196 := fO_of (k := 3) (hv190.ko (n := 11) hc1 rfl (wid_f (by decide)) (by decide)) rfl
                    have t197 := fO_of (k := 4) (hv190.ko (n := 11) hc1 rfl (wid_f (by decide)) (by decide)) rfl
                    refine ur_ldA rfl rfl ?_
                    refine ur_get rfl (hv190.ko (n := 8) hc166 rfl (wid_f (by decide)) (by decide)) rfl ?_
                    refine ur_get rfl (hv190.ko (n := 11) hc1 rfl (wid_f (by decide)) (by decide)) rfl ?_
                    refine ur_ldA rfl rfl ?_
                    refine ur_get rfl (hv190.ko (n := 8) hc166 rfl (wid_f (by decide)) (by decide)) rfl ?_
                    refine ur_get rfl (hv190.ko (n := 11) hc1 rfl (wid_f (by decide)) (by decide)) rfl ?_
                    obtain ⟨g214, f199, f200, f201, f202, f203, f204, f205, f206, f207, o211, f208, f209, f210, hc198, k212, k213⟩ := hO190.word k189.2
                    have t215 := fO_keep (a := 15) (ci := 1) (n := 11) (k := 1) hO0 hO190 hv190 (by decide) rfl (by decide) rfl (by decide)
                    have t216 := fO_keep (a := 15) (ci := 1) (n := 11) (k := 2) hO0 hO190 hv190 (by decide) rfl (by decide) rfl (by decide)
                    have t217 := fO_keep (a := 15) (ci := 1) (n := 11) (k := 3) hO0 hO190 hv190 (by decide) rfl (by decide) rfl (by decide)
                    have t218 := fO_keep (a := 15) (ci := 1) (n := 11) (k := 4) hO0 hO190 hv190 (by decide) rfl (by decide) rfl (by decide)
                    refine ur_inl rfl (rcv_of hc198) (Nat.le_of_ble_eq_true rfl) (Nat.le_of_ble_eq_true rfl) (sd_X10_dateIt hO190 g214 k189.2 _ _ _ (fun w219 h223 hr220 hO223 hv223 hp221 hp222 => ?_))
                    have hu223 : un [16, 45, 46, 2501, 9010, 22005, 22006, 22007, 22008, 22009, 22010, 22011, 22012] h190 h223 := hv223.mono (by decide)
                    subst hr220
                    show uRun _ (uCall Mt _) _ 166 (_, [], _, _, _)
                    have t224 := fO_of (k := 1) (hv223.ko (n := 11) (hv190.ko (n := 11) hc1 rfl (wid_f (by decide)) (by decide)) rfl (wid_f (by decide)) (by decide)) rfl
                    have t225 := fO_of (k := 2) (hv223.ko (n := 11) (hv190.ko (n := 11) hc1 rfl (wid_f (by decide)) (by decide)) rfl (wid_f (by decide)) (by decide)) rfl
                    have t226 := fO_of (k := 3) (hv223.ko (n := 11) (hv190.ko (n := 11) hc1 rfl (wid_f (by decide)) (by decide)) rfl (wid_f (by decide)) (by decide)) rfl
                    have t227 := fO_of (k := 4) (hv223.ko (n := 11) (hv190.ko (n := 11) hc1 rfl (wid_f (by decide)) (by decide)) rfl (wid_f (by decide)) (by decide)) rfl
                    refine ur_ldA rfl rfl ?_
                    refine ur_get rfl (hv223.ko (n := 8) (hv190.ko (n := 8) hc166 rfl (wid_f (by decide)) (by decide)) rfl (wid_f (by decide)) (by decide)) rfl ?_
                    obtain ⟨f229, f230, hc228, k231⟩ := ok_41 hO223
                    have t232 := fO_keep (a := 15) (ci := 1) (n := 11) (k := 1) hO190 hO223 hv223 (by decide) rfl (by decide) rfl (by decide)
                    have t233 := fO_keep (a := 15) (ci := 1) (n := 11) (k := 2) hO190 hO223 hv223 (by decide) rfl (by decide) rfl (by decide)
                    have t234 := fO_keep (a := 15) (ci := 1) (n := 11) (k := 3) hO190 hO223 hv223 (by decide) rfl (by decide) rfl (by decide)
                    have t235 := fO_keep (a := 15) (ci := 1) (n := 11) (k := 4) hO190 hO223 hv223 (by decide) rfl (by decide) rfl (by decide)
                    refine ur_inl rfl (rcv_of hc228) (Nat.le_of_ble_eq_true rfl) (Nat.le_of_ble_eq_true rfl) (sf_X7_forgetWeights hO223  (fun w236 h238 hr237 hO238 hv238 => ?_))
                    have hu238 : un [16, 45, 46, 2501, 9010, 22005, 22006, 22007, 22008, 22009, 22010, 22011, 22012] h223 h238 := hv238.mono (by decide)
                    subst hr237
                    show uRun _ (uCall Mt _) _ 173 (_, [], _, _, _)
                    have t239 := fO_of (k := 1) (hv238.ko (n := 11) (hv223.ko (n := 11) (hv190.ko (n := 11) hc1 rfl (wid_f (by decide)) (by decide)) rfl (wid_f (by decide)) (by decide)) rfl (wid_f (by decide)) (by decide)) rfl
                    have t240 := fO_of (k := 2) (hv238.ko (n := 11) (hv223.ko (n := 11) (hv190.ko (n := 11) hc1 rfl (wid_f (by decide)) (by decide)) rfl (wid_f (by decide)) (by decide)) rfl (wid_f (by decide)) (by decide)) rfl
                    have t241 := fO_of (k := 3) (hv238.ko (n := 11) (hv223.ko (n := 11) (hv190.ko (n := 11) hc1 rfl (wid_f (by decide)) (by decide)) rfl (wid_f (by decide)) (by decide)) rfl (wid_f (by decide)) (by decide)) rfl
                    have t242 := fO_of (k := 4) (hv238.ko (n := 11) (hv223.ko (n := 11) (hv190.ko (n := 11) hc1 rfl (wid_f (by decide)) (by decide)) rfl (wid_f (by decide)) (by decide)) rfl (wid_f (by decide)) (by decide)) rfl
                    refine ur_ldA rfl rfl ?_
                    refine ur_get rfl (hv238.ko (n := 8) (hv223.ko (n := 8) (hv190.ko (n := 8) hc166 rfl (wid_f (by decide)) (by decide)) rfl (wid_f (by decide)) (by decide)) rfl (wid_f (by decide)) (by decide)) rfl ?_
                    refine ur_ldA rfl rfl ?_
                    refine ur_ldI rfl rfl ?_
                    have k243 : fO h238 h0.length 1 = (x18 : Int32).toInt := ((fO_kw hO223 hO238 hv238 g214 (hu223.tm k189.2 (by decide)) rfl (by decide)).trans ((fO_kw hO190 hO223 hv223 g214 k189.2 rfl (by decide)).trans (fO_of (k := 1) hc192 rfl)))
                    have t244 := fO_keep (a := 15) (ci := 1) (n := 11) (k := 1) hO223 hO238 hv238 (by decide) rfl (by decide) rfl (by decide)
                    have t245 := fO_keep (a := 15) (ci := 1) (n := 11) (k := 2) hO223 hO238 hv238 (by decide) rfl (by decide) rfl (by decide)
                    have t246 := fO_keep (a := 15) (ci := 1) (n := 11) (k := 3) hO223 hO238 hv238 (by decide) rfl (by decide) rfl (by decide)
                    have t247 := fO_keep (a := 15) (ci := 1) (n := 11) (k := 4) hO223 hO238 hv238 (by decide) rfl (by decide) rfl (by decide)
                    refine ur_inl rfl (rcv_of (hv238.ko (n := 11) (hv223.ko (n := 11) (hv190.ko (n := 11) hc1 rfl (wid_f (by decide)) (by decide)) rfl (wid_f (by decide)) (by decide)) rfl (wid_f (by decide)) (by decide))) (Nat.le_of_ble_eq_true rfl) (Nat.le_of_ble_eq_true rfl) (se_X1_addWord hO238 g214 (hu238.tm (hu223.tm k189.2 (by decide)) (by decide)) _ (((pre0.un hO0 hO190 hv190 (by decide) (by decide)).un hO190 hO223 hv223 (by decide) (by decide)).un hO223 hO238 hv238 (by decide) (by decide)) (by omega) (by rw [k243]; omega) (fun w248 h256 hr249 hO256 hv256 hp250 hp251 hp252 hp253 hp254 hp255 => ?_))
                    have hu256 : un [16, 45, 46, 2501, 9010, 22005, 22006, 22007, 22008, 22009, 22010, 22011, 22012] h238 h256 := hv256.mono (by decide)
                    obtain ⟨x257, rfl, t258⟩ := hr249
                    show uRun _ (uCall Mt _) _ 183 (_, [(.inl x257)], _, _, _)
                    obtain ⟨f260, f261, f262, f263, hc259, k264⟩ := ok_15 hO256
                    have t265 := fO_of (k := 1) hc259 rfl
                    have t266 := fO_of (k := 2) hc259 rfl
                    have t267 := fO_of (k := 3) hc259 rfl
                    have t268 := fO_of (k := 4) hc259 rfl
                    have t269 := fO_keep (a := 15) (ci := 1) (n := 11) (k := 2) hO238 hO256 hv256 (by decide) rfl (by decide) rfl (by decide)
                    have t270 := fO_keep (a := 15) (ci := 1) (n := 11) (k := 3) hO238 hO256 hv256 (by decide) rfl (by decide) rfl (by decide)
                    have t271 := fO_keep (a := 15) (ci := 1) (n := 11) (k := 4) hO238 hO256 hv256 (by decide) rfl (by decide) rfl (by decide)
                    have t272 := hv223.nW (by decide)
                    have t273 := hv238.nW (by decide)
                    have t274 := hv256.nW (by decide)
                    have w275 : arR h256 16 = (arR h0 16).set (fO h0 15 1).toNat (some h0.length) := by rw [hp253, show arR h238 16 = arR h0 16 from ((arR_u hO223 hv238 (by decide)).trans ((arR_u hO190 hv223 (by decide)).trans (arR_u hO0 hv190 (by decide)))), show fO h238 15 1 = fO h0 15 1 by omega]
                    have w276 : OWK h0 h256 (h0.length) := ((((OWK.un hO0 hv190 (by decide)).tr hp221).tr (OWK.un hO223 hv238 (by decide))).tr hp252)
                    have w277 := KWc.push hO0 w276 rfl w275 (by omega)
                    have w278 : fO h256 (h0.length) 0 = (f2 : Int32).toInt := fO_fA (((fA_un hO238 hv256 g214 (hu238.tm (hu223.tm k189.2 (by decide)) (by decide)) (by decide) (by decide)).trans ((fA_un hO223 hv238 g214 (hu223.tm k189.2 (by decide)) (by decide) (by decide)).trans (fA_un hO190 hv223 g214 k189.2 (by decide) (by decide)))).trans (fA_of (k := 0) hc192))
                    have w279 : fO h256 (h0.length) 1 = (x18 : Int32).toInt := fO_fA (((fA_un hO238 hv256 g214 (hu238.tm (hu223.tm k189.2 (by decide)) (by decide)) (by decide) (by decide)).trans ((fA_un hO223 hv238 g214 (hu223.tm k189.2 (by decide)) (by decide) (by decide)).trans (fA_un hO190 hv223 g214 k189.2 (by decide) (by decide)))).trans (fA_of (k := 1) hc192))
                    have w280 : fO h256 (h0.length) 2 = (x11 : Int32).toInt := fO_fA (((fA_un hO238 hv256 g214 (hu238.tm (hu223.tm k189.2 (by decide)) (by decide)) (by decide) (by decide)).trans ((fA_un hO223 hv238 g214 (hu223.tm k189.2 (by decide)) (by decide) (by decide)).trans (fA_un hO190 hv223 g214 k189.2 (by decide) (by decide)))).trans (fA_of (k := 2) hc192))
                    have w281 : fO h256 (h0.length) 3 = (x22 : Int32).toInt := fO_fA (((fA_un hO238 hv256 g214 (hu238.tm (hu223.tm k189.2 (by decide)) (by decide)) (by decide) (by decide)).trans ((fA_un hO223 hv238 g214 (hu223.tm k189.2 (by decide)) (by decide) (by decide)).trans (fA_un hO190 hv223 g214 k189.2 (by decide) (by decide)))).trans (fA_of (k := 3) hc192))
                    have w282 : fO h256 (h0.length) 4 = (a2 : Int32).toInt := fO_fA (((fA_un hO238 hv256 g214 (hu238.tm (hu223.tm k189.2 (by decide)) (by decide)) (by decide) (by decide)).trans ((fA_un hO223 hv238 g214 (hu223.tm k189.2 (by decide)) (by decide) (by decide)).trans (fA_un hO190 hv223 g214 k189.2 (by decide) (by decide)))).trans (fA_of (k := 4) hc192))
                    have w283 : fO h256 (h0.length) 5 = (f3 : Int32).toInt := fO_fA (((fA_un hO238 hv256 g214 (hu238.tm (hu223.tm k189.2 (by decide)) (by decide)) (by decide) (by decide)).trans (fA_un hO223 hv238 g214 (hu223.tm k189.2 (by decide)) (by decide) (by decide))).trans hp222.1)
                    have w284 : fO h256 (h0.length) 6 = (f4 : Int32).toInt := fO_fA (((fA_un hO238 hv256 g214 (hu238.tm (hu223.tm k189.2 (by decide)) (by decide)) (by decide) (by decide)).trans (fA_un hO223 hv238 g214 (hu223.tm k189.2 (by decide)) (by decide) (by decide))).trans hp222.2.1)
                    have w285 : fO h256 (h0.length) 7 = (f5 : Int32).toInt := fO_fA (((fA_un hO238 hv256 g214 (hu238.tm (hu223.tm k189.2 (by decide)) (by decide)) (by decide) (by decide)).trans (fA_un hO223 hv238 g214 (hu223.tm k189.2 (by decide)) (by decide) (by decide))).trans hp222.2.2)
                    have w288 := k243.trans h30
                    have w286 := mo_G hp254 w288 (((fA_un hO223 hv238 g214 (hu223.tm k189.2 (by decide)) (by decide) (by decide)).trans (fA_un hO190 hv223 g214 k189.2 (by decide) (by decide))).trans (fA_of (k := 8) hc192)) (by decide)
                    have w287 := cr_G (h0 := h0) hp255 w288 (((fA_un hO223 hv238 g214 (hu223.tm k189.2 (by decide)) (by decide) (by decide)).trans (fA_un hO190 hv223 g214 k189.2 (by decide) (by decide))).trans (fA_of (k := 9) hc192)) ((arR_u hO223 hv238 (by decide)).trans ((arR_u hO190 hv223 (by decide)).trans (arR_u hO0 hv190 (by decide)))) (((OWK.un hO0 hv190 (by decide)).tr hp221).tr (OWK.un hO223 hv238 (by decide))) hO0 rfl
                    exact ur_ret rfl rfl (hQ _ _ ⟨_, rfl, Or.inr (Or.inr ⟨⟨⟨by omega, by omega, by omega, by omega, by omega⟩, by omega, fun q => by omega, fun q => by omega, fun q => by omega⟩, by omega, by omega, by omega⟩)⟩ hO256 (hu190.tr (hu223.tr (hu238.tr hu256))) (by omega) hp251 w277.1 (fun _ => ⟨h0.length, _, _, ⟨w277.2, by omega, w279.trans h30, w280.trans h29, w281, w282, by omega, by omega, by omega, rfl⟩, Or.inr ⟨by omega, h31⟩, w286, w287.1, w287.2⟩))
                  · have t289 := ne_no c185
                    exfalso
                    omega
                · have t290 := lt_no c182
                  refine ur_push rfl ?_
                  exact ur_ret rfl rfl (hQ _ _ ⟨_, rfl, Or.inr (Or.inl ⟨⟨⟨by omega, by omega, by omega, by omega, by omega⟩, by omega, fun q => by omega, fun q => by omega, fun q => by omega⟩, by omega, by omega, by omega⟩)⟩ hO0 un.rf (by omega) pre0 KWc.rf (fun q => by exfalso; omega))
              · have t291 := t179 c180
                clear t178 t179
                refine ur_push rfl ?_
                exact ur_ret rfl rfl (hQ _ _ ⟨_, rfl, Or.inl ⟨fun q => by omega, by omega, by omega⟩⟩ hO0 un.rf (by omega) pre0 KWc.rf (fun q => by exfalso; omega))
            · have t292 := t172 c173
              clear t171 t172
              refine ur_push rfl ?_
              exact ur_ret rfl rfl (hQ _ _ ⟨_, rfl, Or.inl ⟨fun q => by omega, by omega, by omega⟩⟩ hO0 un.rf (by omega) pre0 KWc.rf (fun q => by exfalso; omega))
        · have t293 := wi_noL c42 l_0 l_400
          refine ur_push rfl ?_
          exact ur_ret rfl rfl (hQ _ _ ⟨_, rfl, Or.inl ⟨fun q => by omega, by omega, by omega⟩⟩ hO0 un.rf (by omega) pre0 KWc.rf (fun q => by exfalso; omega))

set_option maxRecDepth 20000 in
set_option maxHeartbeats 4000000 in
theorem se_X11_addWordFromRow {d kc ks : Nat} {h0 : aH} {Q : Option aV → aH → Prop} (hO0 : OK h0) (a1 : Int32) (b1 : 0 ≤ a1.toInt ∧ a1.toInt ≤ 8) (a2 : Int32) (a3 : Int32) (pre0 : NA h0) (pre1 : ((0 ≤ a2.toInt ∧ a2.toInt ≤ 5) ∧ gI h0 58 a2.toInt = 2 ∧ 0 ≤ a3.toInt ∧ 0 ≤ 5 ∧ a3.toInt ≤ gI h0 61 a2.toInt ∧ 5 ≤ gI h0 61 a2.toInt - a3.toInt)) (hQ : ∀ r h', (∃ q, r = some (.inl (bi q)) ∧ (q = true → (((0 ≤ fl h0 (63 + a2.toInt.toNat) (a3.toInt + 0) ∧ fl h0 (63 + a2.toInt.toNat) (a3.toInt + 0) ≤ 9999) ∧ (0 ≤ fl h0 (63 + a2.toInt.toNat) (a3.toInt + 1) ∧ fl h0 (63 + a2.toInt.toNat) (a3.toInt + 1) ≤ 9999) ∧ (0 ≤ fl h0 (63 + a2.toInt.toNat) (a3.toInt + 2) ∧ fl h0 (63 + a2.toInt.toNat) (a3.toInt + 2) ≤ 9999) ∧ (0 ≤ fl h0 (63 + a2.toInt.toNat) (a3.toInt + 3) ∧ fl h0 (63 + a2.toInt.toNat) (a3.toInt + 3) ≤ 400) ∧ (fl h0 (63 + a2.toInt.toNat) (a3.toInt + 4) = 0 ∨ fl h0 (63 + a2.toInt.toNat) (a3.toInt + 4) = 4 ∨ fl h0 (63 + a2.toInt.toNat) (a3.toInt + 4) = 5)) ∧ fO h0 15 1 < 150) ∧ fO h' 15 1 = fO h0 15 1 + 1) ∧ (q = false → ¬ (((0 ≤ fl h0 (63 + a2.toInt.toNat) (a3.toInt + 0) ∧ fl h0 (63 + a2.toInt.toNat) (a3.toInt + 0) ≤ 9999) ∧ (0 ≤ fl h0 (63 + a2.toInt.toNat) (a3.toInt + 1) ∧ fl h0 (63 + a2.toInt.toNat) (a3.toInt + 1) ≤ 9999) ∧ (0 ≤ fl h0 (63 + a2.toInt.toNat) (a3.toInt + 2) ∧ fl h0 (63 + a2.toInt.toNat) (a3.toInt + 2) ≤ 9999) ∧ (0 ≤ fl h0 (63 + a2.toInt.toNat) (a3.toInt + 3) ∧ fl h0 (63 + a2.toInt.toNat) (a3.toInt + 3) ≤ 400) ∧ (fl h0 (63 + a2.toInt.toNat) (a3.toInt + 4) = 0 ∨ fl h0 (63 + a2.toInt.toNat) (a3.toInt + 4) = 4 ∨ fl h0 (63 + a2.toInt.toNat) (a3.toInt + 4) = 5)) ∧ fO h0 15 1 < 150) ∧ fO h' 15 1 = fO h0 15 1)) → OK h' → un [16, 45, 46, 2501, 9010, 22005, 22006, 22007, 22008, 22009, 22010, 22011, 22012] h0 h' → (nW h' ≤ nW h0 + 1) → (NA h') → (KWc h0 h') → (imG (fO h' 15 1 = fO h0 15 1 + 1) (∃ z, NWz h' (fO h0 15 1) z (fl h0 (63 + a2.toInt.toNat) (a3.toInt + 4)) a1.toInt (-1) (fl h0 (63 + a2.toInt.toNat) (a3.toInt + 3)) (fl h0 (63 + a2.toInt.toNat) (a3.toInt + 0)) (fl h0 (63 + a2.toInt.toNat) (a3.toInt + 1)) (fl h0 (63 + a2.toInt.toNat) (a3.toInt + 2)) (-1) ∧ fA h' z 9 = some (.inr (.inr none)))) → Q r h') : uCall Mt (d + 7) 167 [(.inr (.inr (some 0))), (.inl a1), (.inl a2), (.inl a3)] h0 kc ks Q := by
  have l_m1 : ((-1) : Int32).toInt = -1 := by decide
  have l_0 : ((0) : Int32).toInt = 0 := by decide
  have l_1 : ((1) : Int32).toInt = 1 := by decide
  have l_2 : ((2) : Int32).toInt = 2 := by decide
  have l_3 : ((3) : Int32).toInt = 3 := by decide
  have l_4 : ((4) : Int32).toInt = 4 := by decide
  have l_5 : ((5) : Int32).toInt = 5 := by decide
  have l_150 : ((150) : Int32).toInt = 150 := by decide
  have l_400 : ((400) : Int32).toInt = 400 := by decide
  have l_9999 : ((9999) : Int32).toInt = 9999 := by decide
  refine uc_ink [some (.inr (.inr (some 0))), some (.inl a1), some (.inl a2), some (.inl a3), none, none, none, none, none, none] mt_167 (Nat.le_of_ble_eq_true rfl) rfl ?_
  obtain ⟨f2, f3, f4, f5, hc1, k6⟩ := ok_15 hO0
  have t7 := fO_of (k := 1) hc1 rfl
  have t8 := fO_of (k := 2) hc1 rfl
  have t9 := fO_of (k := 3) hc1 rfl
  have t10 := fO_of (k := 4) hc1 rfl
  have t11 := gI61 hO0 a2.toInt
  refine ur_ldA rfl rfl ?_
  have t12 : 0 ≤ a3.toInt ∧ a3.toInt ≤ 55 := by omega
  obtain ⟨hc13, k14⟩ := ok_0 hO0
  refine ur_get rfl hc13 rfl ?_
  refine ur_ldI rfl rfl ?_
  refine ur_ldI rfl rfl ?_
  obtain ⟨hc15, k16⟩ := ok_57 hO0
  refine ur_inl rfl (rcv_of hc15) (Nat.le_of_ble_eq_true rfl) (Nat.le_of_ble_eq_true rfl) (sd_X4_read hO0 _ _ (fun w17 hr18 => ?_))
  obtain ⟨y19, rfl, f20⟩ := hr18
  show uRun _ (uCall Mt _) _ 9 (_, [(.inr (.inl y19))], _, _, _)
  refine ur_l2iV rfl (fun x21 e22 => ?_)
  have t23 : fl h0 (63 + a2.toInt.toNat) (a3.toInt + 0) = x21.toInt := fl_of (by omega) (f20 (by omega)) e22
  clear f20
  refine ur_svIk [some (.inr (.inr (some 0))), some (.inl a1), some (.inl a2), some (.inl a3), some (.inl x21), none, none, none, none, none] rfl rfl ?_
  refine ur_ldA rfl rfl ?_
  refine ur_get rfl hc13 rfl ?_
  refine ur_ldI rfl rfl ?_
  refine ur_ldI rfl rfl ?_
  refine ur_push rfl ?_
  refine ur_binV rfl (fun x24 e25 => ?_)
  have z26 := any_r a3
  have t27 := ti_add e25 (by omega) (by omega)
  refine ur_inl rfl (rcv_of hc15) (Nat.le_of_ble_eq_true rfl) (Nat.le_of_ble_eq_true rfl) (sd_X4_read hO0 _ _ (fun w28 hr29 => ?_))
  obtain ⟨y30, rfl, f31⟩ := hr29
  show uRun _ (uCall Mt _) _ 23 (_, [(.inr (.inl y30))], _, _, _)
  refine ur_l2iV rfl (fun x32 e33 => ?_)
  have t34 : fl h0 (63 + a2.toInt.toNat) (a3.toInt + 1) = x32.toInt := fl_of (by omega) (f31 (by omega)) e33
  clear f31
  refine ur_svIk [some (.inr (.inr (some 0))), some (.inl a1), some (.inl a2), some (.inl a3), some (.inl x21), some (.inl x32), none, none, none, none] rfl rfl ?_
  refine ur_ldA rfl rfl ?_
  refine ur_get rfl hc13 rfl ?_
  refine ur_ldI rfl rfl ?_
  refine ur_ldI rfl rfl ?_
  refine ur_push rfl ?_
  refine ur_binV rfl (fun x35 e36 => ?_)
  have t37 := ti_add e36 (by omega) (by omega)
  refine ur_inl rfl (rcv_of hc15) (Nat.le_of_ble_eq_true rfl) (Nat.le_of_ble_eq_true rfl) (sd_X4_read hO0 _ _ (fun w38 hr39 => ?_))
  obtain ⟨y40, rfl, f41⟩ := hr39
  show uRun _ (uCall Mt _) _ 37 (_, [(.inr (.inl y40))], _, _, _)
  refine ur_l2iV rfl (fun x42 e43 => ?_)
  have t44 : fl h0 (63 + a2.toInt.toNat) (a3.toInt + 2) = x42.toInt := fl_of (by omega) (f41 (by omega)) e43
  clear f41
  refine ur_svIk [some (.inr (.inr (some 0))), some (.inl a1), some (.inl a2), some (.inl a3), some (.inl x21), some (.inl x32), some (.inl x42), none, none, none] rfl rfl ?_
  refine ur_ldA rfl rfl ?_
  refine ur_get rfl hc13 rfl ?_
  refine ur_ldI rfl rfl ?_
  refine ur_ldI rfl rfl ?_
  refine ur_push rfl ?_
  refine ur_binV rfl (fun x45 e46 => ?_)
  have t47 := ti_add e46 (by omega) (by omega)
  refine ur_inl rfl (rcv_of hc15) (Nat.le_of_ble_eq_true rfl) (Nat.le_of_ble_eq_true rfl) (sd_X4_read hO0 _ _ (fun w48 hr49 => ?_))
  obtain ⟨y50, rfl, f51⟩ := hr49
  show uRun _ (uCall Mt _) _ 51 (_, [(.inr (.inl y50))], _, _, _)
  refine ur_l2iV rfl (fun x52 e53 => ?_)
  have t54 : fl h0 (63 + a2.toInt.toNat) (a3.toInt + 3) = x52.toInt := fl_of (by omega) (f51 (by omega)) e53
  clear f51
  refine ur_svIk [some (.inr (.inr (some 0))), some (.inl a1), some (.inl a2), some (.inl a3), some (.inl x21), some (.inl x32), some (.inl x42), some (.inl x52), none, none] rfl rfl ?_
  refine ur_ldA rfl rfl ?_
  refine ur_get rfl hc13 rfl ?_
  refine ur_ldI rfl rfl ?_
  refine ur_ldI rfl rfl ?_
  refine ur_push rfl ?_
  refine ur_binV rfl (fun x55 e56 => ?_)
  have t57 := ti_add e56 (by omega) (by omega)
  refine ur_inl rfl (rcv_of hc15) (Nat.le_of_ble_eq_true rfl) (Nat.le_of_ble_eq_true rfl) (sd_X4_read hO0 _ _ (fun w58 hr59 => ?_))
  obtain ⟨y60, rfl, f61⟩ := hr59
  show uRun _ (uCall Mt _) _ 65 (_, [(.inr (.inl y60))], _, _, _)
  refine ur_l2iV rfl (fun x62 e63 => ?_)
  have t64 : fl h0 (63 + a2.toInt.toNat) (a3.toInt + 4) = x62.toInt := fl_of (by omega) (f61 (by omega)) e63
  clear f61
  refine ur_svIk [some (.inr (.inr (some 0))), some (.inl a1), some (.inl a2), some (.inl a3), some (.inl x21), some (.inl x32), some (.inl x42), some (.inl x52), some (.inl x62), none] rfl rfl ?_
  refine ur_ldI rfl rfl ?_
  refine ur_callv rfl rfl (Nat.le_of_ble_eq_true rfl) (Nat.le_of_ble_eq_true rfl) rfl (sp_isDat _ _) ?_
  refine ur_eqB rfl (fun c67 => ?_) (fun c67 => ?_)
  · have t68 := wi_noL c67 l_0 l_9999
    refine ur_push rfl ?_
    exact ur_ret rfl rfl (hQ _ _ ⟨false, rfl, fun e => absurd e (by decide), fun _ => by omega⟩ hO0 un.rf (by omega) pre0 KWc.rf (fun q => by exfalso; omega))
  · have t69 := wi_toL c67 l_0 l_9999
    refine ur_ldI rfl rfl ?_
    refine ur_callv rfl rfl (Nat.le_of_ble_eq_true rfl) (Nat.le_of_ble_eq_true rfl) rfl (sp_isDat _ _) ?_
    refine ur_eqB rfl (fun c72 => ?_) (fun c72 => ?_)
    · have t73 := wi_noL c72 l_0 l_9999
      refine ur_push rfl ?_
      exact ur_ret rfl rfl (hQ _ _ ⟨false, rfl, fun e => absurd e (by decide), fun _ => by omega⟩ hO0 un.rf (by omega) pre0 KWc.rf (fun q => by exfalso; omega))
    · have t74 := wi_toL c72 l_0 l_9999
      refine ur_ldI rfl rfl ?_
      refine ur_callv rfl rfl (Nat.le_of_ble_eq_true rfl) (Nat.le_of_ble_eq_true rfl) rfl (sp_isDat _ _) ?_
      refine ur_eqB rfl (fun c77 => ?_) (fun c77 => ?_)
      · have t78 := wi_noL c77 l_0 l_9999
        refine ur_push rfl ?_
        exact ur_ret rfl rfl (hQ _ _ ⟨false, rfl, fun e => absurd e (by decide), fun _ => by omega⟩ hO0 un.rf (by omega) pre0 KWc.rf (fun q => by exfalso; omega))
      · have t79 := wi_toL c77 l_0 l_9999
        refine ur_ldI rfl rfl ?_
        refine ur_push rfl ?_
        refine ur_push rfl ?_
        refine ur_callv rfl rfl (Nat.le_of_ble_eq_true rfl) (Nat.le_of_ble_eq_true rfl) rfl (sp_within _ _ _ _ _) ?_
        refine ur_neB rfl (fun c82 => ?_) (fun c82 => ?_)
        · have t83 := wi_toL c82 l_0 l_400
          refine ur_ldI rfl rfl ?_
          refine ur_if1 rfl (fun c84 => ?_) (fun c84 => ?_)
          · have t85 := eq_to c84
            refine ur_ldA rfl rfl ?_
            refine ur_get rfl hc13 rfl ?_
            refine ur_get rfl hc1 rfl ?_
            refine ur_push rfl ?_
            refine ur_if2 rfl (fun c86 => ?_) (fun c86 => ?_)
            · have t87 := lt_to c86
              refine ur_new rfl (Nat.le_of_ble_eq_true rfl) ?_
              refine ur_dup rfl rfl ?_
              refine ur_ldA rfl rfl ?_
              refine ur_get rfl (hs_ap hc13) rfl ?_
              refine ur_get rfl (hs_ap hc1) rfl ?_
              refine ur_ldI rfl rfl ?_
              refine ur_ldI rfl rfl ?_
              refine ur_push rfl ?_
              refine ur_ldI rfl rfl ?_
              refine ur_inl rfl (rcv_of ap_0) (Nat.le_of_ble_eq_true rfl) (Nat.le_of_ble_eq_true rfl) (sd_newWord hO0 _ _ _ _ _ (by show (0 ≤ f2.toInt ∧ f2.toInt ≤ 149) ∧ (0 ≤ x62.toInt ∧ x62.toInt ≤ 7) ∧ (0 ≤ a1.toInt ∧ a1.toInt ≤ 8) ∧ -1 ≤ ((-1) : Int32).toInt ∧ ((-1) : Int32).toInt ≤ 19; omega) (fun w89 h92 hr90 hO92 hv92 k91 hn95 hx93 => ?_))
              have hc94 : h92[h0.length]? = some (.inl (10, [.inl f2, .inl x62, .inl a1, .inl (-1), .inl x52, .inl 0, .inl 0, .inl 0, .inl (-1), .inr (.inr none), .inl 0, .inl 0, .inl 0])) := by rw [hx93]; exact ap_0
              have hu92 : un [16, 45, 46, 2501, 9010, 22005, 22006, 22007, 22008, 22009, 22010, 22011, 22012] h0 h92 := hv92.mono (by decide)
              subst hr90
              show uRun _ (uCall Mt _) _ 160 (_, [(.inr (.inr (some h0.length)))], _, _, _)
              refine ur_svAk [some (.inr (.inr (some 0))), some (.inl a1), some (.inl a2), some (.inl a3), some (.inl x21), some (.inl x32), some (.inl x42), some (.inl x52), some (.inl x62), some (.inr (.inr (some h0.length)))] rfl rfl ?_
              refine ur_ldA rfl rfl ?_
              refine ur_ldI rfl rfl ?_
              refine ur_ldI rfl rfl ?_
              refine ur_ldI rfl rfl ?_
              obtain ⟨g112, f97, f98, f99, f100, f101, f102, f103, f104, f105, o109, f106, f107, f108, hc96, k110, k111⟩ := hO92.word k91.2
              have t113 := fO_keep (a := 15) (ci := 1) (n := 11) (k := 1) hO0 hO92 hv92 (by decide) rfl (by decide) rfl (by decide)
              have t114 := fO_keep (a := 15) (ci := 1) (n := 11) (k := 2) hO0 hO92 hv92 (by decide) rfl (by decide) rfl (by decide)
              have t115 := fO_keep (a := 15) (ci := 1) (n := 11) (k := 3) hO0 hO92 hv92 (by decide) rfl (by decide) rfl (by decide)
              have t116 := fO_keep (a := 15) (ci := 1) (n := 11) (k := 4) hO0 hO92 hv92 (by decide) rfl (by decide) rfl (by decide)
              refine ur_inl rfl (rcv_of hc96) (Nat.le_of_ble_eq_true rfl) (Nat.le_of_ble_eq_true rfl) (sd_X10_dateIt hO92 g112 k91.2 _ _ _ (fun w117 h121 hr118 hO121 hv121 hp119 hp120 => ?_))
              have hu121 : un [16, 45, 46, 2501, 9010, 22005, 22006, 22007, 22008, 22009, 22010, 22011, 22012] h92 h121 := hv121.mono (by decide)
              subst hr118
              show uRun _ (uCall Mt _) _ 173 (_, [], _, _, _)
              have t122 := fO_of (k := 1) (hv121.ko (n := 11) (hv92.ko (n := 11) hc1 rfl (wid_f (by decide)) (by decide)) rfl (wid_f (by decide)) (by decide)) rfl
              have t123 := fO_of (k := 2) (hv121.ko (n := 11) (hv92.ko (n := 11) hc1 rfl (wid_f (by decide)) (by decide)) rfl (wid_f (by decide)) (by decide)) rfl
              have t124 := fO_of (k := 3) (hv121.ko (n := 11) (hv92.ko (n := 11) hc1 rfl (wid_f (by decide)) (by decide)) rfl (wid_f (by decide)) (by decide)) rfl
              have t125 := fO_of (k := 4) (hv121.ko (n := 11) (hv92.ko (n := 11) hc1 rfl (wid_f (by decide)) (by decide)) rfl (wid_f (by decide)) (by decide)) rfl
              refine ur_ldA rfl rfl ?_
              refine ur_get rfl (hv121.ko (n := 8) (hv92.ko (n := 8) hc13 rfl (wid_f (by decide)) (by decide)) rfl (wid_f (by decide)) (by decide)) rfl ?_
              obtain ⟨f127, f128, hc126, k129⟩ := ok_41 hO121
              have t130 := fO_keep (a := 15) (ci := 1) (n := 11) (k := 1) hO92 hO121 hv121 (by decide) rfl (by decide) rfl (by decide)
              have t131 := fO_keep (a := 15) (ci := 1) (n := 11) (k := 2) hO92 hO121 hv121 (by decide) rfl (by decide) rfl (by decide)
              have t132 := fO_keep (a := 15) (ci := 1) (n := 11) (k := 3) hO92 hO121 hv121 (by decide) rfl (by decide) rfl (by decide)
              have t133 := fO_keep (a := 15) (ci := 1) (n := 11) (k := 4) hO92 hO121 hv121 (by decide) rfl (by decide) rfl (by decide)
              refine ur_inl rfl (rcv_of hc126) (Nat.le_of_ble_eq_true rfl) (Nat.le_of_ble_eq_true rfl) (sf_X7_forgetWeights hO121  (fun w134 h136 hr135 hO136 hv136 => ?_))
              have hu136 : un [16, 45, 46, 2501, 9010, 22005, 22006, 22007, 22008, 22009, 22010, 22011, 22012] h121 h136 := hv136.mono (by decide)
              subst hr135
              show uRun _ (uCall Mt _) _ 180 (_, [], _, _, _)
              have t137 := fO_of (k := 1) (hv136.ko (n := 11) (hv121.ko (n := 11) (hv92.ko (n := 11) hc1 rfl (wid_f (by decide)) (by decide)) rfl (wid_f (by decide)) (by decide)) rfl (wid_f (by decide)) (by decide)) rfl
              have t138 := fO_of (k := 2) (hv136.ko (n := 11) (hv121.ko (n := 11) (hv92.ko (n := 11) hc1 rfl (wid_f (by decide)) (by decide)) rfl (wid_f (by decide)) (by decide)) rfl (wid_f (by decide)) (by decide)) rfl
              have t139 := fO_of (k := 3) (hv136.ko (n := 11) (hv121.ko (n := 11) (hv92.ko (n := 11) hc1 rfl (wid_f (by decide)) (by decide)) rfl (wid_f (by decide)) (by decide)) rfl (wid_f (by decide)) (by decide)) rfl
              have t140 := fO_of (k := 4) (hv136.ko (n := 11) (hv121.ko (n := 11) (hv92.ko (n := 11) hc1 rfl (wid_f (by decide)) (by decide)) rfl (wid_f (by decide)) (by decide)) rfl (wid_f (by decide)) (by decide)) rfl
              refine ur_ldA rfl rfl ?_
              refine ur_get rfl (hv136.ko (n := 8) (hv121.ko (n := 8) (hv92.ko (n := 8) hc13 rfl (wid_f (by decide)) (by decide)) rfl (wid_f (by decide)) (by decide)) rfl (wid_f (by decide)) (by decide)) rfl ?_
              refine ur_ldA rfl rfl ?_
              refine ur_push rfl ?_
              have k141 : fO h136 h0.length 1 = (x62 : Int32).toInt := ((fO_kw hO121 hO136 hv136 g112 (hu121.tm k91.2 (by decide)) rfl (by decide)).trans ((fO_kw hO92 hO121 hv121 g112 k91.2 rfl (by decide)).trans (fO_of (k := 1) hc94 rfl)))
              have t142 := fO_keep (a := 15) (ci := 1) (n := 11) (k := 1) hO121 hO136 hv136 (by decide) rfl (by decide) rfl (by decide)
              have t143 := fO_keep (a := 15) (ci := 1) (n := 11) (k := 2) hO121 hO136 hv136 (by decide) rfl (by decide) rfl (by decide)
              have t144 := fO_keep (a := 15) (ci := 1) (n := 11) (k := 3) hO121 hO136 hv136 (by decide) rfl (by decide) rfl (by decide)
              have t145 := fO_keep (a := 15) (ci := 1) (n := 11) (k := 4) hO121 hO136 hv136 (by decide) rfl (by decide) rfl (by decide)
              refine ur_inl rfl (rcv_of (hv136.ko (n := 11) (hv121.ko (n := 11) (hv92.ko (n := 11) hc1 rfl (wid_f (by decide)) (by decide)) rfl (wid_f (by decide)) (by decide)) rfl (wid_f (by decide)) (by decide))) (Nat.le_of_ble_eq_true rfl) (Nat.le_of_ble_eq_true rfl) (se_X1_addWord hO136 g112 (hu136.tm (hu121.tm k91.2 (by decide)) (by decide)) _ (((pre0.un hO0 hO92 hv92 (by decide) (by decide)).un hO92 hO121 hv121 (by decide) (by decide)).un hO121 hO136 hv136 (by decide) (by decide)) (by omega) (by rw [k141]; omega) (fun w146 h154 hr147 hO154 hv154 hp148 hp149 hp150 hp151 hp152 hp153 => ?_))
              have hu154 : un [16, 45, 46, 2501, 9010, 22005, 22006, 22007, 22008, 22009, 22010, 22011, 22012] h136 h154 := hv154.mono (by decide)
              obtain ⟨x155, rfl, t156⟩ := hr147
              show uRun _ (uCall Mt _) _ 190 (_, [(.inl x155)], _, _, _)
              obtain ⟨f158, f159, f160, f161, hc157, k162⟩ := ok_15 hO154
              have t163 := fO_of (k := 1) hc157 rfl
              have t164 := fO_of (k := 2) hc157 rfl
              have t165 := fO_of (k := 3) hc157 rfl
              have t166 := fO_of (k := 4) hc157 rfl
              refine ur_pop rfl rfl ?_
              refine ur_push rfl ?_
              have t167 := fO_keep (a := 15) (ci := 1) (n := 11) (k := 2) hO136 hO154 hv154 (by decide) rfl (by decide) rfl (by decide)
              have t168 := fO_keep (a := 15) (ci := 1) (n := 11) (k := 3) hO136 hO154 hv154 (by decide) rfl (by decide) rfl (by decide)
              have t169 := fO_keep (a := 15) (ci := 1) (n := 11) (k := 4) hO136 hO154 hv154 (by decide) rfl (by decide) rfl (by decide)
              have t170 := hv121.nW (by decide)
              have t171 := hv136.nW (by decide)
              have t172 := hv154.nW (by decide)
              have w173 : arR h154 16 = (arR h0 16).set (fO h0 15 1).toNat (some h0.length) := by rw [hp151, show arR h136 16 = arR h0 16 from ((arR_u hO121 hv136 (by decide)).trans ((arR_u hO92 hv121 (by decide)).trans (arR_u hO0 hv92 (by decide)))), show fO h136 15 1 = fO h0 15 1 by omega]
              have w174 : OWK h0 h154 (h0.length) := ((((OWK.un hO0 hv92 (by decide)).tr hp119).tr (OWK.un hO121 hv136 (by decide))).tr hp150)
              have w175 := KWc.push hO0 w174 rfl w173 (by omega)
              have w176 : fO h154 (h0.length) 0 = (f2 : Int32).toInt := fO_fA (((fA_un hO136 hv154 g112 (hu136.tm (hu121.tm k91.2 (by decide)) (by decide)) (by decide) (by decide)).trans ((fA_un hO121 hv136 g112 (hu121.tm k91.2 (by decide)) (by decide) (by decide)).trans (fA_un hO92 hv121 g112 k91.2 (by decide) (by decide)))).trans (fA_of (k := 0) hc94))
              have w177 : fO h154 (h0.length) 1 = (x62 : Int32).toInt := fO_fA (((fA_un hO136 hv154 g112 (hu136.tm (hu121.tm k91.2 (by decide)) (by decide)) (by decide) (by decide)).trans ((fA_un hO121 hv136 g112 (hu121.tm k91.2 (by decide)) (by decide) (by decide)).trans (fA_un hO92 hv121 g112 k91.2 (by decide) (by decide)))).trans (fA_of (k := 1) hc94))
              have w178 : fO h154 (h0.length) 2 = (a1 : Int32).toInt := fO_fA (((fA_un hO136 hv154 g112 (hu136.tm (hu121.tm k91.2 (by decide)) (by decide)) (by decide) (by decide)).trans ((fA_un hO121 hv136 g112 (hu121.tm k91.2 (by decide)) (by decide) (by decide)).trans (fA_un hO92 hv121 g112 k91.2 (by decide) (by decide)))).trans (fA_of (k := 2) hc94))
              have w179 : fO h154 (h0.length) 3 = ((-1) : Int32).toInt := fO_fA (((fA_un hO136 hv154 g112 (hu136.tm (hu121.tm k91.2 (by decide)) (by decide)) (by decide) (by decide)).trans ((fA_un hO121 hv136 g112 (hu121.tm k91.2 (by decide)) (by decide) (by decide)).trans (fA_un hO92 hv121 g112 k91.2 (by decide) (by decide)))).trans (fA_of (k := 3) hc94))
              have w180 : fO h154 (h0.length) 4 = (x52 : Int32).toInt := fO_fA (((fA_un hO136 hv154 g112 (hu136.tm (hu121.tm k91.2 (by decide)) (by decide)) (by decide) (by decide)).trans ((fA_un hO121 hv136 g112 (hu121.tm k91.2 (by decide)) (by decide) (by decide)).trans (fA_un hO92 hv121 g112 k91.2 (by decide) (by decide)))).trans (fA_of (k := 4) hc94))
              have w181 : fO h154 (h0.length) 5 = (x21 : Int32).toInt := fO_fA (((fA_un hO136 hv154 g112 (hu136.tm (hu121.tm k91.2 (by decide)) (by decide)) (by decide) (by decide)).trans (fA_un hO121 hv136 g112 (hu121.tm k91.2 (by decide)) (by decide) (by decide))).trans hp120.1)
              have w182 : fO h154 (h0.length) 6 = (x32 : Int32).toInt := fO_fA (((fA_un hO136 hv154 g112 (hu136.tm (hu121.tm k91.2 (by decide)) (by decide)) (by decide) (by decide)).trans (fA_un hO121 hv136 g112 (hu121.tm k91.2 (by decide)) (by decide) (by decide))).trans hp120.2.1)
              have w183 : fO h154 (h0.length) 7 = (x42 : Int32).toInt := fO_fA (((fA_un hO136 hv154 g112 (hu136.tm (hu121.tm k91.2 (by decide)) (by decide)) (by decide) (by decide)).trans (fA_un hO121 hv136 g112 (hu121.tm k91.2 (by decide)) (by decide) (by decide))).trans hp120.2.2)
              exact ur_ret rfl rfl (hQ _ _ ⟨true, rfl, fun _ => by omega, fun e => absurd e (by decide)⟩ hO154 (hu92.tr (hu121.tr (hu136.tr hu154))) (by omega) hp149 w175.1 (fun _ => ⟨h0.length, ⟨w175.2, by omega, w177.trans t64.symm, w178, w179.trans (by decide), w180.trans t54.symm, w181.trans t23.symm, w182.trans t34.symm, w183.trans t44.symm, (fO_fA ((hp152.1 (by omega)).trans (((fA_un hO121 hv136 g112 (hu121.tm k91.2 (by decide)) (by decide) (by decide)).trans (fA_un hO92 hv121 g112 k91.2 (by decide) (by decide))).trans (fA_of (k := 8) hc94)))).trans (by decide)⟩, (hp153.2 (by omega)).trans (((fA_un hO121 hv136 g112 (hu121.tm k91.2 (by decide)) (by decide) (by decide)).trans (fA_un hO92 hv121 g112 k91.2 (by decide) (by decide))).trans (fA_of (k := 9) hc94))⟩))
            · have t184 := lt_no c86
              refine ur_push rfl ?_
              exact ur_ret rfl rfl (hQ _ _ ⟨false, rfl, fun e => absurd e (by decide), fun _ => by omega⟩ hO0 un.rf (by omega) pre0 KWc.rf (fun q => by exfalso; omega))
          · have t185 := eq_no c84
            refine ur_ldI rfl rfl ?_
            refine ur_push rfl ?_
            refine ur_if2 rfl (fun c186 => ?_) (fun c186 => ?_)
            · have t187 := eq_to c186
              refine ur_ldA rfl rfl ?_
              refine ur_get rfl hc13 rfl ?_
              refine ur_get rfl hc1 rfl ?_
              refine ur_push rfl ?_
              refine ur_if2 rfl (fun c188 => ?_) (fun c188 => ?_)
              · have t189 := lt_to c188
                refine ur_new rfl (Nat.le_of_ble_eq_true rfl) ?_
                refine ur_dup rfl rfl ?_
                refine ur_ldA rfl rfl ?_
                refine ur_get rfl (hs_ap hc13) rfl ?_
                refine ur_get rfl (hs_ap hc1) rfl ?_
                refine ur_ldI rfl rfl ?_
                refine ur_ldI rfl rfl ?_
                refine ur_push rfl ?_
                refine ur_ldI rfl rfl ?_
                refine ur_inl rfl (rcv_of ap_0) (Nat.le_of_ble_eq_true rfl) (Nat.le_of_ble_eq_true rfl) (sd_newWord hO0 _ _ _ _ _ (by show (0 ≤ f2.toInt ∧ f2.toInt ≤ 149) ∧ (0 ≤ x62.toInt ∧ x62.toInt ≤ 7) ∧ (0 ≤ a1.toInt ∧ a1.toInt ≤ 8) ∧ -1 ≤ ((-1) : Int32).toInt ∧ ((-1) : Int32).toInt ≤ 19; omega) (fun w191 h194 hr192 hO194 hv194 k193 hn197 hx195 => ?_))
                have hc196 : h194[h0.length]? = some (.inl (10, [.inl f2, .inl x62, .inl a1, .inl (-1), .inl x52, .inl 0, .inl 0, .inl 0, .inl (-1), .inr (.inr none), .inl 0, .inl 0, .inl 0])) := by rw [hx195]; exact ap_0
                have hu194 : un [16, 45, 46, 2501, 9010, 22005, 22006, 22007, 22008, 22009, 22010, 22011, 22012] h0 h194 := hv194.mono (by decide)
                subst hr192
                show uRun _ (uCall Mt _) _ 160 (_, [(.inr (.inr (some h0.length)))], _, _, _)
                refine ur_svAk [some (.inr (.inr (some 0))), some (.inl a1), some (.inl a2), some (.inl a3), some (.inl x21), some (.inl x32), some (.inl x42), some (.inl x52), some (.inl x62), some (.inr (.inr (some h0.length)))] rfl rfl ?_
                refine ur_ldA rfl rfl ?_
                refine ur_ldI rfl rfl ?_
                refine ur_ldI rfl rfl ?_
                refine ur_ldI rfl rfl ?_
                obtain ⟨g214, f199, f200, f201, f202, f203, f204, f205, f206, f207, o211, f208, f209, f210, hc198, k212, k213⟩ := hO194.word k193.2
                have t215 := fO_keep (a := 15) (ci := 1) (n := 11) (k := 1) hO0 hO194 hv194 (by decide) rfl (by decide) rfl (by decide)
                have t216 := fO_keep (a := 15) (ci := 1) (n := 11) (k := 2) hO0 hO194 hv194 (by decide) rfl (by decide) rfl (by decide)
                have t217 := fO_keep (a := 15) (ci := 1) (n := 11) (k := 3) hO0 hO194 hv194 (by decide) rfl (by decide) rfl (by decide)
                have t218 := fO_keep (a := 15) (ci := 1) (n := 11) (k := 4) hO0 hO194 hv194 (by decide) rfl (by decide) rfl (by decide)
                refine ur_inl rfl (rcv_of hc198) (Nat.le_of_ble_eq_true rfl) (Nat.le_of_ble_eq_true rfl) (sd_X10_dateIt hO194 g214 k193.2 _ _ _ (fun w219 h223 hr220 hO223 hv223 hp221 hp222 => ?_))
                have hu223 : un [16, 45, 46, 2501, 9010, 22005, 22006, 22007, 22008, 22009, 22010, 22011, 22012] h194 h223 := hv223.mono (by decide)
                subst hr220
                show uRun _ (uCall Mt _) _ 173 (_, [], _, _, _)
                have t224 := fO_of (k := 1) (hv223.ko (n := 11) (hv194.ko (n := 11) hc1 rfl (wid_f (by decide)) (by decide)) rfl (wid_f (by decide)) (by decide)) rfl
                have t225 := fO_of (k := 2) (hv223.ko (n := 11) (hv194.ko (n := 11) hc1 rfl (wid_f (by decide)) (by decide)) rfl (wid_f (by decide)) (by decide)) rfl
                have t226 := fO_of (k := 3) (hv223.ko (n := 11) (hv194.ko (n := 11) hc1 rfl (wid_f (by decide)) (by decide)) rfl (wid_f (by decide)) (by decide)) rfl
                have t227 := fO_of (k := 4) (hv223.ko (n := 11) (hv194.ko (n := 11) hc1 rfl (wid_f (by decide)) (by decide)) rfl (wid_f (by decide)) (by decide)) rfl
                refine ur_ldA rfl rfl ?_
                refine ur_get rfl (hv223.ko (n := 8) (hv194.ko (n := 8) hc13 rfl (wid_f (by decide)) (by decide)) rfl (wid_f (by decide)) (by decide)) rfl ?_
                obtain ⟨f229, f230, hc228, k231⟩ := ok_41 hO223
                have t232 := fO_keep (a := 15) (ci := 1) (n := 11) (k := 1) hO194 hO223 hv223 (by decide) rfl (by decide) rfl (by decide)
                have t233 := fO_keep (a := 15) (ci := 1) (n := 11) (k := 2) hO194 hO223 hv223 (by decide) rfl (by decide) rfl (by decide)
                have t234 := fO_keep (a := 15) (ci := 1) (n := 11) (k := 3) hO194 hO223 hv223 (by decide) rfl (by decide) rfl (by decide)
                have t235 := fO_keep (a := 15) (ci := 1) (n := 11) (k := 4) hO194 hO223 hv223 (by decide) rfl (by decide) rfl (by decide)
                refine ur_inl rfl (rcv_of hc228) (Nat.le_of_ble_eq_true rfl) (Nat.le_of_ble_eq_true rfl) (sf_X7_forgetWeights hO223  (fun w236 h238 hr237 hO238 hv238 => ?_))
                have hu238 : un [16, 45, 46, 2501, 9010, 22005, 22006, 22007, 22008, 22009, 22010, 22011, 22012] h223 h238 := hv238.mono (by decide)
                subst hr237
                show uRun _ (uCall Mt _) _ 180 (_, [], _, _, _)
                have t239 := fO_of (k := 1) (hv238.ko (n := 11) (hv223.ko (n := 11) (hv194.ko (n := 11) hc1 rfl (wid_f (by decide)) (by decide)) rfl (wid_f (by decide)) (by decide)) rfl (wid_f (by decide)) (by decide)) rfl
                have t240 := fO_of (k := 2) (hv238.ko (n := 11) (hv223.ko (n := 11) (hv194.ko (n := 11) hc1 rfl (wid_f (by decide)) (by decide)) rfl (wid_f (by decide)) (by decide)) rfl (wid_f (by decide)) (by decide)) rfl
                have t241 := fO_of (k := 3) (hv238.ko (n := 11) (hv223.ko (n := 11) (hv194.ko (n := 11) hc1 rfl (wid_f (by decide)) (by decide)) rfl (wid_f (by decide)) (by decide)) rfl (wid_f (by decide)) (by decide)) rfl
                have t242 := fO_of (k := 4) (hv238.ko (n := 11) (hv223.ko (n := 11) (hv194.ko (n := 11) hc1 rfl (wid_f (by decide)) (by decide)) rfl (wid_f (by decide)) (by decide)) rfl (wid_f (by decide)) (by decide)) rfl
                refine ur_ldA rfl rfl ?_
                refine ur_get rfl (hv238.ko (n := 8) (hv223.ko (n := 8) (hv194.ko (n := 8) hc13 rfl (wid_f (by decide)) (by decide)) rfl (wid_f (by decide)) (by decide)) rfl (wid_f (by decide)) (by decide)) rfl ?_
                refine ur_ldA rfl rfl ?_
                refine ur_push rfl ?_
                have k243 : fO h238 h0.length 1 = (x62 : Int32).toInt := ((fO_kw hO223 hO238 hv238 g214 (hu223.tm k193.2 (by decide)) rfl (by decide)).trans ((fO_kw hO194 hO223 hv223 g214 k193.2 rfl (by decide)).trans (fO_of (k := 1) hc196 rfl)))
                have t244 := fO_keep (a := 15) (ci := 1) (n := 11) (k := 1) hO223 hO238 hv238 (by decide) rfl (by decide) rfl (by decide)
                have t245 := fO_keep (a := 15) (ci := 1) (n := 11) (k := 2) hO223 hO238 hv238 (by decide) rfl (by decide) rfl (by decide)
                have t246 := fO_keep (a := 15) (ci := 1) (n := 11) (k := 3) hO223 hO238 hv238 (by decide) rfl (by decide) rfl (by decide)
                have t247 := fO_keep (a := 15) (ci := 1) (n := 11) (k := 4) hO223 hO238 hv238 (by decide) rfl (by decide) rfl (by decide)
                refine ur_inl rfl (rcv_of (hv238.ko (n := 11) (hv223.ko (n := 11) (hv194.ko (n := 11) hc1 rfl (wid_f (by decide)) (by decide)) rfl (wid_f (by decide)) (by decide)) rfl (wid_f (by decide)) (by decide))) (Nat.le_of_ble_eq_true rfl) (Nat.le_of_ble_eq_true rfl) (se_X1_addWord hO238 g214 (hu238.tm (hu223.tm k193.2 (by decide)) (by decide)) _ (((pre0.un hO0 hO194 hv194 (by decide) (by decide)).un hO194 hO223 hv223 (by decide) (by decide)).un hO223 hO238 hv238 (by decide) (by decide)) (by omega) (by rw [k243]; omega) (fun w248 h256 hr249 hO256 hv256 hp250 hp251 hp252 hp253 hp254 hp255 => ?_))
                have hu256 : un [16, 45, 46, 2501, 9010, 22005, 22006, 22007, 22008, 22009, 22010, 22011, 22012] h238 h256 := hv256.mono (by decide)
                obtain ⟨x257, rfl, t258⟩ := hr249
                show uRun _ (uCall Mt _) _ 190 (_, [(.inl x257)], _, _, _)
                obtain ⟨f260, f261, f262, f263, hc259, k264⟩ := ok_15 hO256
                have t265 := fO_of (k := 1) hc259 rfl
                have t266 := fO_of (k := 2) hc259 rfl
                have t267 := fO_of (k := 3) hc259 rfl
                have t268 := fO_of (k := 4) hc259 rfl
                refine ur_pop rfl rfl ?_
                refine ur_push rfl ?_
                have t269 := fO_keep (a := 15) (ci := 1) (n := 11) (k := 2) hO238 hO256 hv256 (by decide) rfl (by decide) rfl (by decide)
                have t270 := fO_keep (a := 15) (ci := 1) (n := 11) (k := 3) hO238 hO256 hv256 (by decide) rfl (by decide) rfl (by decide)
                have t271 := fO_keep (a := 15) (ci := 1) (n := 11) (k := 4) hO238 hO256 hv256 (by decide) rfl (by decide) rfl (by decide)
                have t272 := hv223.nW (by decide)
                have t273 := hv238.nW (by decide)
                have t274 := hv256.nW (by decide)
                have w275 : arR h256 16 = (arR h0 16).set (fO h0 15 1).toNat (some h0.length) := by rw [hp253, show arR h238 16 = arR h0 16 from ((arR_u hO223 hv238 (by decide)).trans ((arR_u hO194 hv223 (by decide)).trans (arR_u hO0 hv194 (by decide)))), show fO h238 15 1 = fO h0 15 1 by omega]
                have w276 : OWK h0 h256 (h0.length) := ((((OWK.un hO0 hv194 (by decide)).tr hp221).tr (OWK.un hO223 hv238 (by decide))).tr hp252)
                have w277 := KWc.push hO0 w276 rfl w275 (by omega)
                have w278 : fO h256 (h0.length) 0 = (f2 : Int32).toInt := fO_fA (((fA_un hO238 hv256 g214 (hu238.tm (hu223.tm k193.2 (by decide)) (by decide)) (by decide) (by decide)).trans ((fA_un hO223 hv238 g214 (hu223.tm k193.2 (by decide)) (by decide) (by decide)).trans (fA_un hO194 hv223 g214 k193.2 (by decide) (by decide)))).trans (fA_of (k := 0) hc196))
                have w279 : fO h256 (h0.length) 1 = (x62 : Int32).toInt := fO_fA (((fA_un hO238 hv256 g214 (hu238.tm (hu223.tm k193.2 (by decide)) (by decide)) (by decide) (by decide)).trans ((fA_un hO223 hv238 g214 (hu223.tm k193.2 (by decide)) (by decide) (by decide)).trans (fA_un hO194 hv223 g214 k193.2 (by decide) (by decide)))).trans (fA_of (k := 1) hc196))
                have w280 : fO h256 (h0.length) 2 = (a1 : Int32).toInt := fO_fA (((fA_un hO238 hv256 g214 (hu238.tm (hu223.tm k193.2 (by decide)) (by decide)) (by decide) (by decide)).trans ((fA_un hO223 hv238 g214 (hu223.tm k193.2 (by decide)) (by decide) (by decide)).trans (fA_un hO194 hv223 g214 k193.2 (by decide) (by decide)))).trans (fA_of (k := 2) hc196))
                have w281 : fO h256 (h0.length) 3 = ((-1) : Int32).toInt := fO_fA (((fA_un hO238 hv256 g214 (hu238.tm (hu223.tm k193.2 (by decide)) (by decide)) (by decide) (by decide)).trans ((fA_un hO223 hv238 g214 (hu223.tm k193.2 (by decide)) (by decide) (by decide)).trans (fA_un hO194 hv223 g214 k193.2 (by decide) (by decide)))).trans (fA_of (k := 3) hc196))
                have w282 : fO h256 (h0.length) 4 = (x52 : Int32).toInt := fO_fA (((fA_un hO238 hv256 g214 (hu238.tm (hu223.tm k193.2 (by decide)) (by decide)) (by decide) (by decide)).trans ((fA_un hO223 hv238 g214 (hu223.tm k193.2 (by decide)) (by decide) (by decide)).trans (fA_un hO194 hv223 g214 k193.2 (by decide) (by decide)))).trans (fA_of (k := 4) hc196))
                have w283 : fO h256 (h0.length) 5 = (x21 : Int32).toInt := fO_fA (((fA_un hO238 hv256 g214 (hu238.tm (hu223.tm k193.2 (by decide)) (by decide)) (by decide) (by decide)).trans (fA_un hO223 hv238 g214 (hu223.tm k193.2 (by decide)) (by decide) (by decide))).trans hp222.1)
                have w284 : fO h256 (h0.length) 6 = (x32 : Int32).toInt := fO_fA (((fA_un hO238 hv256 g214 (hu238.tm (hu223.tm k193.2 (by decide)) (by decide)) (by decide) (by decide)).trans (fA_un hO223 hv238 g214 (hu223.tm k193.2 (by decide)) (by decide) (by decide))).trans hp222.2.1)
                have w285 : fO h256 (h0.length) 7 = (x42 : Int32).toInt := fO_fA (((fA_un hO238 hv256 g214 (hu238.tm (hu223.tm k193.2 (by decide)) (by decide)) (by decide) (by decide)).trans (fA_un hO223 hv238 g214 (hu223.tm k193.2 (by decide)) (by decide) (by decide))).trans hp222.2.2)
                exact ur_ret rfl rfl (hQ _ _ ⟨true, rfl, fun _ => by omega, fun e => absurd e (by decide)⟩ hO256 (hu194.tr (hu223.tr (hu238.tr hu256))) (by omega) hp251 w277.1 (fun _ => ⟨h0.length, ⟨w277.2, by omega, w279.trans t64.symm, w280, w281.trans (by decide), w282.trans t54.symm, w283.trans t23.symm, w284.trans t34.symm, w285.trans t44.symm, (fO_fA ((hp254.1 (by omega)).trans (((fA_un hO223 hv238 g214 (hu223.tm k193.2 (by decide)) (by decide) (by decide)).trans (fA_un hO194 hv223 g214 k193.2 (by decide) (by decide))).trans (fA_of (k := 8) hc196)))).trans (by decide)⟩, (hp255.2 (by omega)).trans (((fA_un hO223 hv238 g214 (hu223.tm k193.2 (by decide)) (by decide) (by decide)).trans (fA_un hO194 hv223 g214 k193.2 (by decide) (by decide))).trans (fA_of (k := 9) hc196))⟩))
              · have t286 := lt_no c188
                refine ur_push rfl ?_
                exact ur_ret rfl rfl (hQ _ _ ⟨false, rfl, fun e => absurd e (by decide), fun _ => by omega⟩ hO0 un.rf (by omega) pre0 KWc.rf (fun q => by exfalso; omega))
            · have t287 := eq_no c186
              refine ur_ldI rfl rfl ?_
              refine ur_push rfl ?_
              refine ur_if2 rfl (fun c288 => ?_) (fun c288 => ?_)
              · have t289 := eq_to c288
                refine ur_ldA rfl rfl ?_
                refine ur_get rfl hc13 rfl ?_
                refine ur_get rfl hc1 rfl ?_
                refine ur_push rfl ?_
                refine ur_if2 rfl (fun c290 => ?_) (fun c290 => ?_)
                · have t291 := lt_to c290
                  refine ur_new rfl (Nat.le_of_ble_eq_true rfl) ?_
                  refine ur_dup rfl rfl ?_
                  refine ur_ldA rfl rfl ?_
                  refine ur_get rfl (hs_ap hc13) rfl ?_
                  refine ur_get rfl (hs_ap hc1) rfl ?_
                  refine ur_ldI rfl rfl ?_
                  refine ur_ldI rfl rfl ?_
                  refine ur_push rfl ?_
                  refine ur_ldI rfl rfl ?_
                  refine ur_inl rfl (rcv_of ap_0) (Nat.le_of_ble_eq_true rfl) (Nat.le_of_ble_eq_true rfl) (sd_newWord hO0 _ _ _ _ _ (by show (0 ≤ f2.toInt ∧ f2.toInt ≤ 149) ∧ (0 ≤ x62.toInt ∧ x62.toInt ≤ 7) ∧ (0 ≤ a1.toInt ∧ a1.toInt ≤ 8) ∧ -1 ≤ ((-1) : Int32).toInt ∧ ((-1) : Int32).toInt ≤ 19; omega) (fun w293 h296 hr294 hO296 hv296 k295 hn299 hx297 => ?_))
                  have hc298 : h296[h0.length]? = some (.inl (10, [.inl f2, .inl x62, .inl a1, .inl (-1), .inl x52, .inl 0, .inl 0, .inl 0, .inl (-1), .inr (.inr none), .inl 0, .inl 0, .inl 0])) := by rw [hx297]; exact ap_0
                  have hu296 : un [16, 45, 46, 2501, 9010, 22005, 22006, 22007, 22008, 22009, 22010, 22011, 22012] h0 h296 := hv296.mono (by decide)
                  subst hr294
                  show uRun _ (uCall Mt _) _ 160 (_, [(.inr (.inr (some h0.length)))], _, _, _)
                  refine ur_svAk [some (.inr (.inr (some 0))), some (.inl a1), some (.inl a2), some (.inl a3), some (.inl x21), some (.inl x32), some (.inl x42), some (.inl x52), some (.inl x62), some (.inr (.inr (some h0.length)))] rfl rfl ?_
                  refine ur_ldA rfl rfl ?_
                  refine ur_ldI rfl rfl ?_
                  refine ur_ldI rfl rfl ?_
                  refine ur_ldI rfl rfl ?_
                  obtain ⟨g316, f301, f302, f303, f304, f305, f306, f307, f308, f309, o313, f310, f311, f312, hc300, k314, k315⟩ := hO296.word k295.2
                  have t317 := fO_keep (a := 15) (ci := 1) (n := 11) (k := 1) hO0 hO296 hv296 (by decide) rfl (by decide) rfl (by decide)
                  have t318 := fO_keep (a := 15) (ci := 1) (n := 11) (k := 2) hO0 hO296 hv296 (by decide) rfl (by decide) rfl (by decide)
                  have t319 := fO_keep (a := 15) (ci := 1) (n := 11) (k := 3) hO0 hO296 hv296 (by decide) rfl (by decide) rfl (by decide)
                  have t320 := fO_keep (a := 15) (ci := 1) (n := 11) (k := 4) hO0 hO296 hv296 (by decide) rfl (by decide) rfl (by decide)
                  refine ur_inl rfl (rcv_of hc300) (Nat.le_of_ble_eq_true rfl) (Nat.le_of_ble_eq_true rfl) (sd_X10_dateIt hO296 g316 k295.2 _ _ _ (fun w321 h325 hr322 hO325 hv325 hp323 hp324 => ?_))
                  have hu325 : un [16, 45, 46, 2501, 9010, 22005, 22006, 22007, 22008, 22009, 22010, 22011, 22012] h296 h325 := hv325.mono (by decide)
                  subst hr322
                  show uRun _ (uCall Mt _) _ 173 (_, [], _, _, _)
                  have t326 := fO_of (k := 1) (hv325.ko (n := 11) (hv296.ko (n := 11) hc1 rfl (wid_f (by decide)) (by decide)) rfl (wid_f (by decide)) (by decide)) rfl
                  have t327 := fO_of (k := 2) (hv325.ko (n := 11) (hv296.ko (n := 11) hc1 rfl (wid_f (by decide)) (by decide)) rfl (wid_f (by decide)) (by decide)) rfl
                  have t328 := fO_of (k := 3) (hv325.ko (n := 11) (hv296.ko (n := 11) hc1 rfl (wid_f (by decide)) (by decide)) rfl (wid_f (by decide)) (by decide)) rfl
                  have t329 := fO_of (k := 4) (hv325.ko (n := 11) (hv296.ko (n := 11) hc1 rfl (wid_f (by decide)) (by decide)) rfl (wid_f (by decide)) (by decide)) rfl
                  refine ur_ldA rfl rfl ?_
                  refine ur_get rfl (hv325.ko (n := 8) (hv296.ko (n := 8) hc13 rfl (wid_f (by decide)) (by decide)) rfl (wid_f (by decide)) (by decide)) rfl ?_
                  obtain ⟨f331, f332, hc330, k333⟩ := ok_41 hO325
                  have t334 := fO_keep (a := 15) (ci := 1) (n := 11) (k := 1) hO296 hO325 hv325 (by decide) rfl (by decide) rfl (by decide)
                  have t335 := fO_keep (a := 15) (ci := 1) (n := 11) (k := 2) hO296 hO325 hv325 (by decide) rfl (by decide) rfl (by decide)
                  have t336 := fO_keep (a := 15) (ci := 1) (n := 11) (k := 3) hO296 hO325 hv325 (by decide) rfl (by decide) rfl (by decide)
                  have t337 := fO_keep (a := 15) (ci := 1) (n := 11) (k := 4) hO296 hO325 hv325 (by decide) rfl (by decide) rfl (by decide)
                  refine ur_inl rfl (rcv_of hc330) (Nat.le_of_ble_eq_true rfl) (Nat.le_of_ble_eq_true rfl) (sf_X7_forgetWeights hO325  (fun w338 h340 hr339 hO340 hv340 => ?_))
                  have hu340 : un [16, 45, 46, 2501, 9010, 22005, 22006, 22007, 22008, 22009, 22010, 22011, 22012] h325 h340 := hv340.mono (by decide)
                  subst hr339
                  show uRun _ (uCall Mt _) _ 180 (_, [], _, _, _)
                  have t341 := fO_of (k := 1) (hv340.ko (n := 11) (hv325.ko (n := 11) (hv296.ko (n := 11) hc1 rfl (wid_f (by decide)) (by decide)) rfl (wid_f (by decide)) (by decide)) rfl (wid_f (by decide)) (by decide)) rfl
                  have t342 := fO_of (k := 2) (hv340.ko (n := 11) (hv325.ko (n := 11) (hv296.ko (n := 11) hc1 rfl (wid_f (by decide)) (by decide)) rfl (wid_f (by decide)) (by decide)) rfl (wid_f (by decide)) (by decide)) rfl
                  have t343 := fO_of (k := 3) (hv340.ko (n := 11) (hv325.ko (n := 11) (hv296.ko (n := 11) hc1 rfl (wid_f (by decide)) (by decide)) rfl (wid_f (by decide)) (by decide)) rfl (wid_f (by decide)) (by decide)) rfl
                  have t344 := fO_of (k := 4) (hv340.ko (n := 11) (hv325.ko (n := 11) (hv296.ko (n := 11) hc1 rfl (wid_f (by decide)) (by decide)) rfl (wid_f (by decide)) (by decide)) rfl (wid_f (by decide)) (by decide)) rfl
                  refine ur_ldA rfl rfl ?_
                  refine ur_get rfl (hv340.ko (n := 8) (hv325.ko (n := 8) (hv296.ko (n := 8) hc13 rfl (wid_f (by decide)) (by decide)) rfl (wid_f (by decide)) (by decide)) rfl (wid_f (by decide)) (by decide)) rfl ?_
                  refine ur_ldA rfl rfl ?_
                  refine ur_push rfl ?_
                  have k345 : fO h340 h0.length 1 = (x62 : Int32).toInt := ((fO_kw hO325 hO340 hv340 g316 (hu325.tm k295.2 (by decide)) rfl (by decide)).trans ((fO_kw hO296 hO325 hv325 g316 k295.2 rfl (by decide)).trans (fO_of (k := 1) hc298 rfl)))
                  have t346 := fO_keep (a := 15) (ci := 1) (n := 11) (k := 1) hO325 hO340 hv340 (by decide) rfl (by decide) rfl (by decide)
                  have t347 := fO_keep (a := 15) (ci := 1) (n := 11) (k := 2) hO325 hO340 hv340 (by decide) rfl (by decide) rfl (by decide)
                  have t348 := fO_keep (a := 15) (ci := 1) (n := 11) (k := 3) hO325 hO340 hv340 (by decide) rfl (by decide) rfl (by decide)
                  have t349 := fO_keep (a := 15) (ci := 1) (n := 11) (k := 4) hO325 hO340 hv340 (by decide) rfl (by decide) rfl (by decide)
                  refine ur_inl rfl (rcv_of (hv340.ko (n := 11) (hv325.ko (n := 11) (hv296.ko (n := 11) hc1 rfl (wid_f (by decide)) (by decide)) rfl (wid_f (by decide)) (by decide)) rfl (wid_f (by decide)) (by decide))) (Nat.le_of_ble_eq_true rfl) (Nat.le_of_ble_eq_true rfl) (se_X1_addWord hO340 g316 (hu340.tm (hu325.tm k295.2 (by decide)) (by decide)) _ (((pre0.un hO0 hO296 hv296 (by decide) (by decide)).un hO296 hO325 hv325 (by decide) (by decide)).un hO325 hO340 hv340 (by decide) (by decide)) (by omega) (by rw [k345]; omega) (fun w350 h358 hr351 hO358 hv358 hp352 hp353 hp354 hp355 hp356 hp357 => ?_))
                  have hu358 : un [16, 45, 46, 2501, 9010, 22005, 22006, 22007, 22008, 22009, 22010, 22011, 22012] h340 h358 := hv358.mono (by decide)
                  obtain ⟨x359, rfl, t360⟩ := hr351
                  show uRun _ (uCall Mt _) _ 190 (_, [(.inl x359)], _, _, _)
                  obtain ⟨f362, f363, f364, f365, hc361, k366⟩ := ok_15 hO358
                  have t367 := fO_of (k := 1) hc361 rfl
                  have t368 := fO_of (k := 2) hc361 rfl
                  have t369 := fO_of (k := 3) hc361 rfl
                  have t370 := fO_of (k := 4) hc361 rfl
                  refine ur_pop rfl rfl ?_
                  refine ur_push rfl ?_
                  have t371 := fO_keep (a := 15) (ci := 1) (n := 11) (k := 2) hO340 hO358 hv358 (by decide) rfl (by decide) rfl (by decide)
                  have t372 := fO_keep (a := 15) (ci := 1) (n := 11) (k := 3) hO340 hO358 hv358 (by decide) rfl (by decide) rfl (by decide)
                  have t373 := fO_keep (a := 15) (ci := 1) (n := 11) (k := 4) hO340 hO358 hv358 (by decide) rfl (by decide) rfl (by decide)
                  have t374 := hv325.nW (by decide)
                  have t375 := hv340.nW (by decide)
                  have t376 := hv358.nW (by decide)
                  have w377 : arR h358 16 = (arR h0 16).set (fO h0 15 1).toNat (some h0.length) := by rw [hp355, show arR h340 16 = arR h0 16 from ((arR_u hO325 hv340 (by decide)).trans ((arR_u hO296 hv325 (by decide)).trans (arR_u hO0 hv296 (by decide)))), show fO h340 15 1 = fO h0 15 1 by omega]
                  have w378 : OWK h0 h358 (h0.length) := ((((OWK.un hO0 hv296 (by decide)).tr hp323).tr (OWK.un hO325 hv340 (by decide))).tr hp354)
                  have w379 := KWc.push hO0 w378 rfl w377 (by omega)
                  have w380 : fO h358 (h0.length) 0 = (f2 : Int32).toInt := fO_fA (((fA_un hO340 hv358 g316 (hu340.tm (hu325.tm k295.2 (by decide)) (by decide)) (by decide) (by decide)).trans ((fA_un hO325 hv340 g316 (hu325.tm k295.2 (by decide)) (by decide) (by decide)).trans (fA_un hO296 hv325 g316 k295.2 (by decide) (by decide)))).trans (fA_of (k := 0) hc298))
                  have w381 : fO h358 (h0.length) 1 = (x62 : Int32).toInt := fO_fA (((fA_un hO340 hv358 g316 (hu340.tm (hu325.tm k295.2 (by decide)) (by decide)) (by decide) (by decide)).trans ((fA_un hO325 hv340 g316 (hu325.tm k295.2 (by decide)) (by decide) (by decide)).trans (fA_un hO296 hv325 g316 k295.2 (by decide) (by decide)))).trans (fA_of (k := 1) hc298))
                  have w382 : fO h358 (h0.length) 2 = (a1 : Int32).toInt := fO_fA (((fA_un hO340 hv358 g316 (hu340.tm (hu325.tm k295.2 (by decide)) (by decide)) (by decide) (by decide)).trans ((fA_un hO325 hv340 g316 (hu325.tm k295.2 (by decide)) (by decide) (by decide)).trans (fA_un hO296 hv325 g316 k295.2 (by decide) (by decide)))).trans (fA_of (k := 2) hc298))
                  have w383 : fO h358 (h0.length) 3 = ((-1) : Int32).toInt := fO_fA (((fA_un hO340 hv358 g316 (hu340.tm (hu325.tm k295.2 (by decide)) (by decide)) (by decide) (by decide)).trans ((fA_un hO325 hv340 g316 (hu325.tm k295.2 (by decide)) (by decide) (by decide)).trans (fA_un hO296 hv325 g316 k295.2 (by decide) (by decide)))).trans (fA_of (k := 3) hc298))
                  have w384 : fO h358 (h0.length) 4 = (x52 : Int32).toInt := fO_fA (((fA_un hO340 hv358 g316 (hu340.tm (hu325.tm k295.2 (by decide)) (by decide)) (by decide) (by decide)).trans ((fA_un hO325 hv340 g316 (hu325.tm k295.2 (by decide)) (by decide) (by decide)).trans (fA_un hO296 hv325 g316 k295.2 (by decide) (by decide)))).trans (fA_of (k := 4) hc298))
                  have w385 : fO h358 (h0.length) 5 = (x21 : Int32).toInt := fO_fA (((fA_un hO340 hv358 g316 (hu340.tm (hu325.tm k295.2 (by decide)) (by decide)) (by decide) (by decide)).trans (fA_un hO325 hv340 g316 (hu325.tm k295.2 (by decide)) (by decide) (by decide))).trans hp324.1)
                  have w386 : fO h358 (h0.length) 6 = (x32 : Int32).toInt := fO_fA (((fA_un hO340 hv358 g316 (hu340.tm (hu325.tm k295.2 (by decide)) (by decide)) (by decide) (by decide)).trans (fA_un hO325 hv340 g316 (hu325.tm k295.2 (by decide)) (by decide) (by decide))).trans hp324.2.1)
                  have w387 : fO h358 (h0.length) 7 = (x42 : Int32).toInt := fO_fA (((fA_un hO340 hv358 g316 (hu340.tm (hu325.tm k295.2 (by decide)) (by decide)) (by decide) (by decide)).trans (fA_un hO325 hv340 g316 (hu325.tm k295.2 (by decide)) (by decide) (by decide))).trans hp324.2.2)
                  exact ur_ret rfl rfl (hQ _ _ ⟨true, rfl, fun _ => by omega, fun e => absurd e (by decide)⟩ hO358 (hu296.tr (hu325.tr (hu340.tr hu358))) (by omega) hp353 w379.1 (fun _ => ⟨h0.length, ⟨w379.2, by omega, w381.trans t64.symm, w382, w383.trans (by decide), w384.trans t54.symm, w385.trans t23.symm, w386.trans t34.symm, w387.trans t44.symm, (fO_fA ((hp356.1 (by omega)).trans (((fA_un hO325 hv340 g316 (hu325.tm k295.2 (by decide)) (by decide) (by decide)).trans (fA_un hO296 hv325 g316 k295.2 (by decide) (by decide))).trans (fA_of (k := 8) hc298)))).trans (by decide)⟩, (hp357.2 (by omega)).trans (((fA_un hO325 hv340 g316 (hu325.tm k295.2 (by decide)) (by decide) (by decide)).trans (fA_un hO296 hv325 g316 k295.2 (by decide) (by decide))).trans (fA_of (k := 9) hc298))⟩))
                · have t388 := lt_no c290
                  refine ur_push rfl ?_
                  exact ur_ret rfl rfl (hQ _ _ ⟨false, rfl, fun e => absurd e (by decide), fun _ => by omega⟩ hO0 un.rf (by omega) pre0 KWc.rf (fun q => by exfalso; omega))
              · have t389 := eq_no c288
                refine ur_push rfl ?_
                exact ur_ret rfl rfl (hQ _ _ ⟨false, rfl, fun e => absurd e (by decide), fun _ => by omega⟩ hO0 un.rf (by omega) pre0 KWc.rf (fun q => by exfalso; omega))
        · have t390 := wi_noL c82 l_0 l_400
          refine ur_push rfl ?_
          exact ur_ret rfl rfl (hQ _ _ ⟨false, rfl, fun e => absurd e (by decide), fun _ => by omega⟩ hO0 un.rf (by omega) pre0 KWc.rf (fun q => by exfalso; omega))
def NWR (h0 h : aH) (p i w pe : Int) (j : Nat) : Prop := ∃ z, NWz h (w + (j : Int)) z (fl h0 (63 + p.toNat) (i + 5 * (j : Int) + 4)) pe (-1) (fl h0 (63 + p.toNat) (i + 5 * (j : Int) + 3)) (fl h0 (63 + p.toNat) (i + 5 * (j : Int) + 0)) (fl h0 (63 + p.toNat) (i + 5 * (j : Int) + 1)) (fl h0 (63 + p.toNat) (i + 5 * (j : Int) + 2)) (-1) ∧ fA h z 9 = some (.inr (.inr none))
theorem NWR.k {h0 h h' : aH} {p i w pe : Int} {j : Nat} (g : NWR h0 h p i w pe j) (k : KWc h h') (w0 : 0 ≤ w) (l : w + (j : Int) < fO h 15 1) : NWR h0 h' p i w pe j := by
  obtain ⟨z, a, e⟩ := g
  obtain ⟨a', e'⟩ := a.k k (by omega) l
  exact ⟨z, a', e'.trans e⟩
theorem NWz.c {h : aH} {i i' : Int} {z : Nat} {ki pe re sl y m d mo ki' pe' re' sl' y' m' d' mo' : Int} (g : NWz h i z ki pe re sl y m d mo) (e0 : i' = i) (e1 : ki' = ki) (e2 : pe' = pe) (e3 : re' = re) (e4 : sl' = sl) (e5 : y' = y) (e6 : m' = m) (e7 : d' = d) (e8 : mo' = mo) : NWz h i' z ki' pe' re' sl' y' m' d' mo' := by
  subst e0 e1 e2 e3 e4 e5 e6 e7 e8
  exact g
set_option maxRecDepth 20000 in
set_option maxHeartbeats 4000000 in
theorem se_X11_words {d kc ks : Nat} {h0 : aH} {Q : Option aV → aH → Prop} (hO0 : OK h0) (a1 : Int32) (a2 : Int32) (a3 : Int32) (a4 : Int32) (pre0 : NA h0) (hQ : ∀ r h', (∃ x : Int32, r = some (.inl x) ∧ ((¬ ((0 ≤ a1.toInt ∧ a1.toInt ≤ 8) ∧ (0 ≤ a2.toInt ∧ a2.toInt ≤ 5) ∧ 1 ≤ a4.toInt ∧ a4.toInt ≤ 12) → x.toInt = -1 ∧ fO h' 15 1 = fO h0 15 1) ∧ (((0 ≤ a1.toInt ∧ a1.toInt ≤ 8) ∧ (0 ≤ a2.toInt ∧ a2.toInt ≤ 5) ∧ 1 ≤ a4.toInt ∧ a4.toInt ≤ 12) ∧ gI h0 58 a2.toInt = 0 → x.toInt = 0 ∧ fO h' 15 1 = fO h0 15 1) ∧ (((0 ≤ a1.toInt ∧ a1.toInt ≤ 8) ∧ (0 ≤ a2.toInt ∧ a2.toInt ≤ 5) ∧ 1 ≤ a4.toInt ∧ a4.toInt ≤ 12) ∧ gI h0 58 a2.toInt ≠ 0 ∧ ¬ ((0 ≤ a2.toInt ∧ a2.toInt ≤ 5) ∧ gI h0 58 a2.toInt = 2 ∧ gI h0 60 a2.toInt = 1) → x.toInt = -12 ∧ fO h' 15 1 = fO h0 15 1) ∧ (((0 ≤ a1.toInt ∧ a1.toInt ≤ 8) ∧ (0 ≤ a2.toInt ∧ a2.toInt ≤ 5) ∧ 1 ≤ a4.toInt ∧ a4.toInt ≤ 12) ∧ ((0 ≤ a2.toInt ∧ a2.toInt ≤ 5) ∧ gI h0 58 a2.toInt = 2 ∧ gI h0 60 a2.toInt = 1) → isR (GD h0 a2.toInt a3.toInt a4.toInt (fO h0 15 1)) x.toInt ∧ fO h' 15 1 = fO h0 15 1 + x.toInt))) → OK h' → un [16, 45, 46, 2501, 9010, 22005, 22006, 22007, 22008, 22009, 22010, 22011, 22012] h0 h' → (nW h' ≤ nW h0 + 12) → (NA h') → (KWc h0 h') → (∀ j : Nat, (j : Int) < fO h' 15 1 - fO h0 15 1 → NWR h0 h' a2.toInt a3.toInt (fO h0 15 1) a1.toInt j) → Q r h') : uCall Mt (d + 8) 136 [(.inr (.inr (some 0))), (.inl a1), (.inl a2), (.inl a3), (.inl a4)] h0 kc ks Q := by
  have l_m12 : ((-12) : Int32).toInt = -12 := by decide
  have l_m1 : ((-1) : Int32).toInt = -1 := by decide
  have l_0 : ((0) : Int32).toInt = 0 := by decide
  have l_1 : ((1) : Int32).toInt = 1 := by decide
  have l_5 : ((5) : Int32).toInt = 5 := by decide
  have l_8 : ((8) : Int32).toInt = 8 := by decide
  have l_12 : ((12) : Int32).toInt = 12 := by decide
  refine uc_ink [some (.inr (.inr (some 0))), some (.inl a1), some (.inl a2), some (.inl a3), some (.inl a4), none, none] mt_136 (Nat.le_of_ble_eq_true rfl) rfl ?_
  obtain ⟨f2, f3, f4, f5, hc1, k6⟩ := ok_15 hO0
  have t7 := fO_of (k := 1) hc1 rfl
  have t8 := gI61 hO0 a2.toInt
  refine ur_ldI rfl rfl ?_
  refine ur_callv rfl rfl (Nat.le_of_ble_eq_true rfl) (Nat.le_of_ble_eq_true rfl) rfl (sp_isPpl _ _) ?_
  refine ur_eqB rfl (fun c11 => ?_) (fun c11 => ?_)
  · have t12 := wi_noL c11 l_0 l_8
    refine ur_push rfl ?_
    exact ur_ret rfl rfl (hQ _ _ ⟨_, rfl, ⟨fun q => by omega, fun q => by omega, fun q => by omega, fun q => by exfalso; omega⟩⟩ hO0 un.rf (by omega) pre0 KWc.rf (fun j hj => by exfalso; omega))
  · have t13 := wi_toL c11 l_0 l_8
    refine ur_ldA rfl rfl ?_
    obtain ⟨hc14, k15⟩ := ok_0 hO0
    refine ur_get rfl hc14 rfl ?_
    refine ur_ldI rfl rfl ?_
    obtain ⟨hc16, k17⟩ := ok_57 hO0
    refine ur_callv rfl rfl (Nat.le_of_ble_eq_true rfl) (Nat.le_of_ble_eq_true rfl) (rcv_of hc16) (sp_page _ _) ?_
    refine ur_eqB rfl (fun c20 => ?_) (fun c20 => ?_)
    · have t21 := wi_noL c20 l_0 l_5
      refine ur_push rfl ?_
      exact ur_ret rfl rfl (hQ _ _ ⟨_, rfl, ⟨fun q => by omega, fun q => by omega, fun q => by omega, fun q => by exfalso; omega⟩⟩ hO0 un.rf (by omega) pre0 KWc.rf (fun j hj => by exfalso; omega))
    · have t22 := wi_toL c20 l_0 l_5
      refine ur_ldI rfl rfl ?_
      refine ur_push rfl ?_
      refine ur_push rfl ?_
      refine ur_callv rfl rfl (Nat.le_of_ble_eq_true rfl) (Nat.le_of_ble_eq_true rfl) rfl (sp_within _ _ _ _ _) ?_
      refine ur_neB rfl (fun c25 => ?_) (fun c25 => ?_)
      · have t26 := wi_toL c25 l_1 l_12
        refine ur_ldA rfl rfl ?_
        refine ur_get rfl hc14 rfl ?_
        refine ur_ldI rfl rfl ?_
        refine ur_inl rfl (rcv_of hc16) (Nat.le_of_ble_eq_true rfl) (Nat.le_of_ble_eq_true rfl) (sd_X4_isEmpty hO0 _ (fun w27 hr28 => ?_))
        obtain ⟨b29, rfl, t30, t31⟩ := hr28
        show uRun _ (uCall Mt _) _ 39 (_, [(.inl (bi b29))], _, _, _)
        refine ur_eqB rfl (fun c32 => ?_) (fun c32 => ?_)
        · have t33 := t31 c32
          clear t30 t31
          refine ur_ldA rfl rfl ?_
          refine ur_get rfl hc14 rfl ?_
          refine ur_ldI rfl rfl ?_
          refine ur_inl rfl (rcv_of hc16) (Nat.le_of_ble_eq_true rfl) (Nat.le_of_ble_eq_true rfl) (sd_X4_holdsShorts hO0 _ (fun w34 hr35 => ?_))
          obtain ⟨b36, rfl, t37, t38⟩ := hr35
          show uRun _ (uCall Mt _) _ 52 (_, [(.inl (bi b36))], _, _, _)
          refine ur_neB rfl (fun c39 => ?_) (fun c39 => ?_)
          · have t40 := t37 c39
            clear t37 t38
            refine ur_ldI rfl rfl ?_
            refine ur_if1 rfl (fun c41 => ?_) (fun c41 => ?_)
            · have t42 := le_to c41
              refine ur_push rfl ?_
              refine ur_svIk [some (.inr (.inr (some 0))), some (.inl a1), some (.inl a2), some (.inl a3), some (.inl a4), some (.inl 0), none] rfl rfl ?_
              refine ur_ldI rfl rfl ?_
              refine ur_svIk [some (.inr (.inr (some 0))), some (.inl a1), some (.inl a2), some (.inl a3), some (.inl a4), some (.inl 0), some (.inl a3)] rfl rfl ?_
              have L45 : ∀ (m46 : Nat) (x43 : Int32) (x44 : Int32) (h48 : aH) , OK h48 → un [16, 45, 46, 2501, 9010, 22005, 22006, 22007, 22008, 22009, 22010, 22011, 22012] h0 h48 → ((0 ≤ x43.toInt ∧ x43.toInt ≤ 12) ∧ (0 ≤ x44.toInt ∧ x44.toInt ≤ 2147483647) ∧ nW h48 ≤ nW h0 + x43.toInt ∧ fO h48 15 1 = fO h0 15 1 + x43.toInt ∧ x44.toInt = a3.toInt + 5 * x43.toInt) → (NA h48) → (∀ j : Nat, (j : Int) < x43.toInt → GD h0 a2.toInt a3.toInt a4.toInt (fO h0 15 1) j) → (KWc h0 h48) → (∀ j : Nat, (j : Int) < x43.toInt → NWR h0 h48 a2.toInt a3.toInt (fO h0 15 1) a1.toInt j) → ((2147483648 - x43.toInt).toNat) < m46 → uRun oX11_words (uCall Mt (d + 7)) Q 70 ([some (.inr (.inr (some 0))), some (.inl a1), some (.inl a2), some (.inl a3), some (.inl a4), some (.inl x43), some (.inl x44)], [], h48, kc, ks) := by
                intro m46
                induction m46 with
                | zero => intro x43 x44 h48 hO48 hu48 iv53 px49 px50 px51 px52 mm54; omega
                | succ m46 ih47 =>
                  intro x43 x44 h48 hO48 hu48 iv53 px49 px50 px51 px52 mm54
                  refine ur_ldI rfl rfl ?_
                  refine ur_ldI rfl rfl ?_
                  have z55 := any_r x43
                  have z56 := any_r a4
                  refine ur_if2 rfl (fun c57 => ?_) (fun c57 => ?_)
                  · have t58 := le_to c57
                    refine ur_ldI rfl rfl ?_
                    obtain ⟨f60, f61, f62, f63, hc59, k64⟩ := ok_15 hO48
                    have t65 := fO_of (k := 1) hc59 rfl
                    exact ur_ret rfl rfl (hQ _ _ ⟨_, rfl, ⟨fun q => absurd (by omega) q, fun q => by exfalso; omega, fun q => by exfalso; omega, fun _ => ⟨⟨by omega, px50, fun q => by unfold GD FOKd at q; rw [show ((x43.toInt.toNat : Nat) : Int) = x43.toInt by omega] at q; omega⟩, by omega⟩⟩⟩ hO48 hu48 (by omega) px49 px51 (fun j hj => px52 j (by omega)))
                  · have t66 := le_no c57
                    have t67 : gI h48 58 a2.toInt = gI h0 58 a2.toInt := gI_keep (a := 58) (kd := 0) (n := 6) hO0 hu48 _ (by decide) rfl (by decide) rfl (by decide) (by decide)
                    have t68 : gI h48 60 a2.toInt = gI h0 60 a2.toInt := gI_keep (a := 60) (kd := 0) (n := 6) hO0 hu48 _ (by decide) rfl (by decide) rfl (by decide) (by decide)
                    have t69 : gI h48 61 a2.toInt = gI h0 61 a2.toInt := gI_keep (a := 61) (kd := 0) (n := 6) hO0 hu48 _ (by decide) rfl (by decide) rfl (by decide) (by decide)
                    refine ur_ldA rfl rfl ?_
                    refine ur_get rfl (hu48.ko (n := 8) hc14 rfl (wid_f (by decide)) (by decide)) rfl ?_
                    refine ur_ldI rfl rfl ?_
                    refine ur_ldI rfl rfl ?_
                    refine ur_inl rfl (rcv_of (hu48.ko (n := 5) hc16 rfl (wid_f (by decide)) (by decide))) (Nat.le_of_ble_eq_true rfl) (Nat.le_of_ble_eq_true rfl) (sd_X4_hasFiveFrom hO48 _ _ (fun w70 hr71 => ?_))
                    obtain ⟨b72, rfl, t73, t74⟩ := hr71
                    show uRun _ (uCall Mt _) _ 87 (_, [(.inl (bi b72))], _, _, _)
                    refine ur_eqB rfl (fun c75 => ?_) (fun c75 => ?_)
                    · have t76 := t74 c75
                      clear t73 t74
                      refine ur_ldI rfl rfl ?_
                      obtain ⟨f78, f79, f80, f81, hc77, k82⟩ := ok_15 hO48
                      have t83 := fO_of (k := 1) hc77 rfl
                      exact ur_ret rfl rfl (hQ _ _ ⟨_, rfl, ⟨fun q => absurd (by omega) q, fun q => by exfalso; omega, fun q => by exfalso; omega, fun _ => ⟨⟨by omega, px50, fun q => by unfold GD FOKd at q; rw [show ((x43.toInt.toNat : Nat) : Int) = x43.toInt by omega] at q; omega⟩, by omega⟩⟩⟩ hO48 hu48 (by omega) px49 px51 (fun j hj => px52 j (by omega)))
                    · have t84 := t73 c75
                      clear t73 t74
                      have t85 : fl h48 (63 + a2.toInt.toNat) (x44.toInt + 0) = fl h0 (63 + a2.toInt.toNat) (a3.toInt + 5 * x43.toInt + 0) := fl_rowk hO0 hu48 (by omega) (by decide) (by omega)
                      have t86 : fl h48 (63 + a2.toInt.toNat) (x44.toInt + 1) = fl h0 (63 + a2.toInt.toNat) (a3.toInt + 5 * x43.toInt + 1) := fl_rowk hO0 hu48 (by omega) (by decide) (by omega)
                      have t87 : fl h48 (63 + a2.toInt.toNat) (x44.toInt + 2) = fl h0 (63 + a2.toInt.toNat) (a3.toInt + 5 * x43.toInt + 2) := fl_rowk hO0 hu48 (by omega) (by decide) (by omega)
                      have t88 : fl h48 (63 + a2.toInt.toNat) (x44.toInt + 3) = fl h0 (63 + a2.toInt.toNat) (a3.toInt + 5 * x43.toInt + 3) := fl_rowk hO0 hu48 (by omega) (by decide) (by omega)
                      have t89 : fl h48 (63 + a2.toInt.toNat) (x44.toInt + 4) = fl h0 (63 + a2.toInt.toNat) (a3.toInt + 5 * x43.toInt + 4) := fl_rowk hO0 hu48 (by omega) (by decide) (by omega)
                      refine ur_ldA rfl rfl ?_
                      refine ur_ldI rfl rfl ?_
                      refine ur_ldI rfl rfl ?_
                      refine ur_ldI rfl rfl ?_
                      obtain ⟨f91, f92, f93, f94, hc90, k95⟩ := ok_15 hO48
                      have t96 := fO_of (k := 1) hc90 rfl
                      have t97 := fO_of (k := 2) hc90 rfl
                      have t98 := fO_of (k := 3) hc90 rfl
                      have t99 := fO_of (k := 4) hc90 rfl
                      refine ur_inl rfl (rcv_of (hu48.ko (n := 8) hc14 rfl (wid_f (by decide)) (by decide))) (Nat.le_of_ble_eq_true rfl) (Nat.le_of_ble_eq_true rfl) (se_X11_addWordFromRow hO48 _ (by show 0 ≤ a1.toInt ∧ a1.toInt ≤ 8; omega) _ _ px49 (by omega) (fun w100 h106 hr101 hO106 hv106 hp102 hp103 hp104 hp105 => ?_))
                      have hu106 := hv106
                      obtain ⟨b107, rfl, t108, t109⟩ := hr101
                      show uRun _ (uCall Mt _) _ 98 (_, [(.inl (bi b107))], _, _, _)
                      obtain ⟨f111, f112, f113, f114, hc110, k115⟩ := ok_15 hO106
                      have t116 := fO_of (k := 1) hc110 rfl
                      refine ur_neB rfl (fun c117 => ?_) (fun c117 => ?_)
                      · have t118 := t108 c117
                        clear t108 t109
                        refine ur_incV (fun z => [some (.inr (.inr (some 0))), some (.inl a1), some (.inl a2), some (.inl a3), some (.inl a4), some (.inl z), some (.inl x44)]) rfl rfl (fun _ => rfl) (fun x119 e120 => ?_)
                        have t121 := ti_add e120 (by omega) (by omega)
                        have t122 : 0 ≤ x44.toInt ∧ x44.toInt ≤ 55 := by omega
                        refine ur_incV (fun z => [some (.inr (.inr (some 0))), some (.inl a1), some (.inl a2), some (.inl a3), some (.inl a4), some (.inl x119), some (.inl z)]) rfl rfl (fun _ => rfl) (fun x123 e124 => ?_)
                        have z125 := any_r x44
                        have t126 := ti_add e124 (by omega) (by omega)
                        refine ur_go rfl ?_
                        have z127 := any_r x119
                        have z128 := any_r x123
                        exact ih47 x119 x123 _ hO106 (hu48.tr hu106) (by omega) hp103 (fun j hj => by by_cases q : (j : Int) < x43.toInt; exact px50 j q; have e : (j : Int) = x43.toInt := (by omega); unfold GD FOKd; rw [e]; omega) (px51.tr hp104 (by omega)) (fun j hj => by by_cases q : (j : Int) < x43.toInt; exact (px52 j q).k hp104 (by omega) (by omega); have e : (j : Int) = x43.toInt := (by omega); obtain ⟨z, w, f⟩ := hp105 (by omega); exact ⟨z, w.c (by omega) (by rw [e]; exact t89.symm) rfl rfl (by rw [e]; exact t88.symm) (by rw [e]; exact t85.symm) (by rw [e]; exact t86.symm) (by rw [e]; exact t87.symm) rfl, f⟩) (by omega)
                      · have t129 := t109 c117
                        clear t108 t109
                        refine ur_go rfl ?_
                        refine ur_ldI rfl rfl ?_
                        exact ur_ret rfl rfl (hQ _ _ ⟨_, rfl, ⟨fun q => absurd (by omega) q, fun q => by exfalso; omega, fun q => by exfalso; omega, fun _ => ⟨⟨by omega, px50, fun q => by unfold GD FOKd at q; rw [show ((x43.toInt.toNat : Nat) : Int) = x43.toInt by omega] at q; omega⟩, by omega⟩⟩⟩ hO106 (hu48.tr hu106) (by omega) hp103 (px51.tr hp104 (by omega)) (fun j hj => (px52 j (by omega)).k hp104 (by omega) (by omega)))
              have z130 := any_r a3
              exact L45 _ 0 a3 _ hO0 un.rf (by omega) pre0 (fun j hj => by exfalso; omega) KWc.rf (fun j hj => by exfalso; omega) (Nat.lt_succ_self _)
            · have t131 := le_no c41
              refine ur_push rfl ?_
              exact ur_ret rfl rfl (hQ _ _ ⟨_, rfl, ⟨fun q => absurd (by omega) q, fun q => by exfalso; omega, fun q => by exfalso; omega, fun _ => ⟨⟨by omega, fun j hj => by exfalso; omega, fun q => by unfold GD at q; rw [show ((((0 : Int32).toInt.toNat : Nat) : Int)) = 0 by omega] at q; omega⟩, by omega⟩⟩⟩ hO0 un.rf (by omega) pre0 KWc.rf (fun j hj => by exfalso; omega))
          · have t132 := t38 c39
            clear t37 t38
            refine ur_push rfl ?_
            exact ur_ret rfl rfl (hQ _ _ ⟨_, rfl, ⟨fun q => by omega, fun q => by omega, fun q => by omega, fun q => by exfalso; omega⟩⟩ hO0 un.rf (by omega) pre0 KWc.rf (fun j hj => by exfalso; omega))
        · have t133 := t30 c32
          clear t30 t31
          refine ur_push rfl ?_
          exact ur_ret rfl rfl (hQ _ _ ⟨_, rfl, ⟨fun q => by omega, fun q => by omega, fun q => by omega, fun q => by exfalso; omega⟩⟩ hO0 un.rf (by omega) pre0 KWc.rf (fun j hj => by exfalso; omega))
      · have t134 := wi_noL c25 l_1 l_12
        refine ur_push rfl ?_
        exact ur_ret rfl rfl (hQ _ _ ⟨_, rfl, ⟨fun q => by omega, fun q => by omega, fun q => by omega, fun q => by exfalso; omega⟩⟩ hO0 un.rf (by omega) pre0 KWc.rf (fun j hj => by exfalso; omega))
end OWD
