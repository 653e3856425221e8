/-! SIGHT: comets, great bodies, texts; printed by program but for its head -/
section SG7
/-! SIGHT: comets that come, great bodies, texts: what the class remembers of sights stays sound -/
theorem an4 {A B C D : Prop} (t : A ∧ B ∧ C) (v : D) : A ∧ B ∧ C ∧ D := ⟨t.1, t.2.1, t.2.2, v⟩
theorem CAz.o {ls : List (List (Int × Int) × List (Int × Int))} {h h' : aH} {z : Nat} {X : Int → Int → Int → Prop} (H : CAz ls h z X) (k : ∀ j ∈ [2, 3, 4, 5, 8, 9], fO h' z j = fO h z j) (c : ∀ j, cf h' z j = cf h z j) (b : ∀ p i, KBf h' z p i = KBf h z p i) : CAz ls h' z X := fun p j e p0 p1 k0 k1 e0 e1 x => by
  have g := H p j e p0 p1 k0 k1 e0 e1 x
  rw [b p (bix j e), b p (bix j e + 4), k 2 (by decide), k 4 (by decide), k 3 (by decide), k 5 (by decide), k 8 (by decide), k 9 (by decide), c]
  exact g
/-- what one comet shows -/
def SG1 (ls : List (List (Int × Int) × List (Int × Int))) (h : aH) (z : Nat) : Prop := CDz h z ∧ (∀ q : Int, 0 ≤ q → q ≤ 8 → gI h (rP h z 13) q ≤ fO h 8 4) ∧ CAz ls h z (SGn z)
theorem SG1.o {ls : List (List (Int × Int) × List (Int × Int))} {h h' : aH} {z : Nat} (A : SG1 ls h z) (k : ∀ j ∈ [2, 3, 4, 5, 8, 9, 10, 11, 12, 13], fA h' z j = fA h z j) (d : arI h' (rP h z 11) = arI h (rP h z 11)) (q : arI h' (qP h z) = arI h (qP h z)) (v : arI h' (rP h z 13) = arI h (rP h z 13)) (s : ∀ j, sgv h' z j = sgv h z j) (e8 : fO h' 8 4 = fO h 8 4) : SG1 ls h' z := by
  obtain ⟨a1, a2, a3⟩ := A
  have r13 : rP h' z 13 = rP h z 13 := rP_e (k 13 (by decide))
  refine ⟨?_, fun p p0 p1 => ?_, a3.o (fun j hj => fO_eA (k j (by revert hj; revert j; decide))) (fun j => cf_j (k 8 (by decide)) (k 9 (by decide)) (k 10 (by decide)) q) (fun p i => KBf_e (by rw [r13]; exact gI_e v p) e8 (s _))⟩
  · unfold CDz at a1 ⊢
    rw [fO_eA (k 2 (by decide)), fO_eA (k 3 (by decide)), fO_eA (k 4 (by decide)), fO_eA (k 5 (by decide)), rP_e (k 11 (by decide))]
    exact ⟨a1.1, a1.2.1, a1.2.2.1, a1.2.2.2.1, fun e e0 e1 => by rw [gI_e d]; exact a1.2.2.2.2 e e0 e1⟩
  · rw [r13, gI_e v, e8]
    exact a2 p p0 p1
/-- where a comet's own arrays lie -/
theorem cm_ar {h : aH} {z : Nat} (hO : OK h) (t : tg h z = (102, 14)) : (114 ≤ rP h z 11 ∧ tg h (rP h z 11) = (0, 241)) ∧ (114 ≤ rP h z 13 ∧ tg h (rP h z 13) = (0, 9)) ∧ (114 ≤ qP h z ∧ tg h (qP h z) = (0, 121)) ∧ (fA h z 12 = some (.inr (.inr none)) ∨ ∃ s, fA h z 12 = some (.inr (.inr (some s))) ∧ 114 ≤ s ∧ tg h s = (4, 8712)) := by
  obtain ⟨gg, p, s, nd, rc, wy, b, pa, bo, f, l, q1, q2, sg, q3, c, k1, k2, k3, k4, k5⟩ := hO.comet t
  have e1 : rP h z 11 = q2 := rP_of (fA_of (k := 11) c)
  have e2 : rP h z 13 = q3 := rP_of (fA_of (k := 13) c)
  have e3 : qP h z = q1 := qP_of (fA_of (k := 10) c)
  have e4 := fA_of (k := 12) c
  refine ⟨by rw [e1]; exact k2, by rw [e2]; exact k4, by rw [e3]; exact k1, ?_⟩
  cases sg with
  | none => exact Or.inl e4
  | some u => exact Or.inr ⟨u, e4, k3 u rfl⟩
theorem SG1.k {ls : List (List (Int × Int) × List (Int × Int))} {h h' : aH} {z : Nat} (A : SG1 ls h z) (hO : OK h) (t : tg h z = (102, 14)) (K : ∀ b, 114 ≤ b → tg h b ≠ (102, 14) → tg h b ≠ (0, 121) → h'[b]? = h[b]?) (k : ∀ j ∈ [2, 3, 4, 5, 8, 9, 10, 11, 12, 13], fA h' z j = fA h z j) (q : arI h' (qP h z) = arI h (qP h z)) (e8 : fO h' 8 4 = fO h 8 4) : SG1 ls h' z := by
  obtain ⟨⟨g1, t1⟩, ⟨g2, t2⟩, -, r⟩ := cm_ar hO t
  refine A.o k (arI_c (K _ g1 (by rw [t1]; decide) (by rw [t1]; decide))) q (arI_c (K _ g2 (by rw [t2]; decide) (by rw [t2]; decide))) (fun j => ?_) e8
  have k12 := k 12 (by decide)
  rcases r with r | ⟨s, r, g3, t3⟩
  · rw [sgv_n r, sgv_n (k12.trans r)]
  · rw [sgv_s r, sgv_s (k12.trans r)]
    have e : arJ h' s = arJ h s := by
      unfold arJ
      rw [K s g3 (by rw [t3]; decide) (by rw [t3]; decide)]
    exact gL_e e _
/-- a field of a comet is written that is no matter -/
theorem SGc.w7 {ls : List (List (Int × Int) × List (Int × Int))} {h h' : aH} {x : Nat} (g : SGc ls h) (hO : OK h) (tx : 114 ≤ x ∧ tg h x = (102, 14)) (K : ∀ b, b ≠ x → h'[b]? = h[b]?) (k : ∀ j, j ≠ 7 → fA h' x j = fA h x j) : SGc ls h' := by
  have a4 : arR h' 4 = arR h 4 := arR_c (K 4 (by omega))
  have n : fO h' 1 4 = fO h 1 4 := fO_c (K 1 (by omega)) 4
  have e8 : fO h' 8 4 = fO h 8 4 := fO_c (K 8 (by omega)) 4
  have kz : ∀ z j, j ≠ 7 → fA h' z j = fA h z j := fun z j hj => by
    by_cases e : z = x
    · subst e
      exact k j hj
    · exact fA_c (K z e) j
  refine ⟨fun c z c0 c1 w => ?_, fun c d y z c0 c1 d0 d1 ne wy wz => ?_⟩
  · rw [n] at c1
    have w1 := cz_c a4 w
    have t := cz_ok hO w1
    obtain ⟨-, -, ⟨g3, t3⟩, -⟩ := cm_ar hO t.2
    have o : SG1 ls h z := g.1 c z c0 c1 w1
    exact o.k hO t.2 (fun b _ t1 _ => K b (fun e => t1 (by rw [e]; exact tx.2))) (fun j hj => kz z j (by revert hj; revert j; decide)) (arI_c (K _ (fun e => by rw [e, tx.2] at t3; exact absurd (congrArg Prod.fst t3) (by decide)))) e8
  · rw [n] at c1 d1
    obtain ⟨a, b, r⟩ := g.2 c d y z c0 c1 d0 d1 ne (cz_c a4 wy) (cz_c a4 wz)
    rw [rP_e (kz y 13 (by decide)), rP_e (kz z 13 (by decide)), kz y 12 (by decide), kz z 12 (by decide)]
    exact ⟨a, b, r⟩
theorem fA_7 {h h' : aH} {z ci : Nat} {L : List aV} {v : aV} (e : h[z]? = some (.inl (ci, L))) (e' : h'[z]? = some (.inl (ci, L.set 7 v))) {j : Nat} (hj : j ≠ 7) : fA h' z j = fA h z j := by
  rw [fA_of e', fA_of e, List.getElem?_set_ne (by omega)]
/-- one that has just been made -/
def NWx (h : aH) (x : Nat) : Prop := CDz h x ∧ (∀ q : Int, gI h (rP h x 13) q = 0) ∧ fA h x 12 = some (.inr (.inr none)) ∧ ∀ (c : Int) (z : Nat), 0 ≤ c → c < fO h 1 4 → cz h c z → rP h z 13 ≠ rP h x 13
theorem NWx.of {h h1 : aH} {p s nd rc w b pa : Int32} {ds : List Int32} (hO : OK h) (e : h1 = h ++ ncL h p s nd rc w b pa ds) (a4 : arR h1 4 = arR h 4) (hg : ∀ j : Nat, (j : Int) < 241 → (ds.getD j 0).toInt = dgF nd.toInt w.toInt rc.toInt ((j : Int) - 120)) (r1 : 0 ≤ nd.toInt ∧ nd.toInt ≤ 359) (r2 : 5 ≤ rc.toInt ∧ rc.toInt ≤ 99) (r3 : w.toInt = 1 ∨ w.toInt = -1) (r4 : 0 ≤ b.toInt ∧ b.toInt ≤ 9) : NWx h1 h.length := by
  have cell : ∀ j : Nat, h1[h.length + j]? = (ncL h p s nd rc w b pa ds)[j]? := fun j => by
    rw [e]
    exact ap_get
  have c0 : h1[h.length]? = some (.inl (2, [.inl p, .inl s, .inl nd, .inl rc, .inl w, .inl b, .inl pa, .inl (-2000000000), .inl 0, .inl 0, .inr (.inr (some (h.length + 1))), .inr (.inr (some (h.length + 2))), .inr (.inr none), .inr (.inr (some (h.length + 3)))])) := (cell 0).trans rfl
  have a2 : arI h1 (h.length + 2) = ds := arI_of (kd := 0) ((cell 2).trans rfl)
  have a3 : arI h1 (h.length + 3) = List.replicate 9 0 := arI_of (kd := 0) ((cell 3).trans rfl)
  have e2 : fO h1 h.length 2 = nd.toInt := fO_fA (fA_of (k := 2) c0)
  have e3 : fO h1 h.length 3 = rc.toInt := fO_fA (fA_of (k := 3) c0)
  have e4 : fO h1 h.length 4 = w.toInt := fO_fA (fA_of (k := 4) c0)
  have e5 : fO h1 h.length 5 = b.toInt := fO_fA (fA_of (k := 5) c0)
  have e11 : rP h1 h.length 11 = h.length + 2 := rP_of (fA_of (k := 11) c0)
  have e13 : rP h1 h.length 13 = h.length + 3 := rP_of (fA_of (k := 13) c0)
  refine ⟨⟨by rw [e2]; exact r1, by rw [e3]; exact r2, by rw [e4]; exact r3, by rw [e5]; exact r4, fun j j0 j1 => ?_⟩, fun q => ?_, fA_of (k := 12) c0, fun c z _ _ wz => ?_⟩
  · rw [e11, e2, e3, e4]
    have k := hg (j + 120).toNat (by omega)
    rw [show (((j + 120).toNat : Nat) : Int) - 120 = j by omega] at k
    unfold gI
    rw [a2]
    exact k
  · rw [e13]
    unfold gI
    rw [a3, List.getD_eq_getElem?_getD, List.getElem?_replicate]
    split <;> rfl
  · have w1 := cz_c a4 wz
    have t := cz_ok hO w1
    obtain ⟨-, ⟨g2, t2⟩, -, -⟩ := cm_ar hO t.2
    have lt : ∀ b : Nat, (tg h b).1 < 900 → b < h.length := fun b hb => by
      rcases Nat.lt_or_ge b h.length with l | l
      · exact l
      · unfold tg at hb
        rw [List.getElem?_eq_none l] at hb
        exact absurd hb (by decide)
    have lz := lt z (by rw [t.2]; decide)
    have lq := lt _ (by rw [t2]; decide)
    have ez : h1[z]? = h[z]? := by
      rw [e]
      exact List.getElem?_append_left lz
    rw [e13, rP_e (fA_c ez 13)]
    omega
theorem SGc.push {ls : List (List (Int × Int) × List (Int × Int))} {h h' : aH} {x : Nat} (g : SGc ls h) (hO : OK h) (nw : NWx h x) (tx : 114 ≤ x ∧ tg h x = (102, 14)) (fr : ∀ (c : Int) (z : Nat), 0 ≤ c → c < fO h 1 4 → cz h c z → z ≠ x ∧ qP h z ≠ qP h x) (K : ∀ b : Nat, b ≠ 4 → b ≠ 1 → b ≠ x → b ≠ qP h x → h'[b]? = h[b]?) (a4 : arR h' 4 = (arR h 4).set (fO h 1 4).toNat (some x)) (n : fO h' 1 4 = fO h 1 4 + 1) (n0 : 0 ≤ fO h 1 4 ∧ fO h 1 4 ≤ 11) (kx : ∀ k, k < 14 → k ≠ 8 → k ≠ 9 → fA h' x k = fA h x k) (v1 : 1 ≤ fO h 8 4) : SGc ls h' := by
  obtain ⟨⟨x1, u1⟩, ⟨x2, u2⟩, ⟨x3, u3⟩, -⟩ := cm_ar hO tx.2
  have hl := arR4_len hO
  have ob : ∀ b, 114 ≤ b → tg h b ≠ (102, 14) → tg h b ≠ (0, 121) → h'[b]? = h[b]? := fun b hb t1 t2 => K b (by omega) (by omega) (fun e => t1 (by rw [e]; exact tx.2)) (fun e => t2 (by rw [e]; exact u3))
  have e8 : fO h' 8 4 = fO h 8 4 := fO_c (K 8 (by decide) (by decide) (by omega) (by omega)) 4
  have oz : ∀ (c : Int) (z : Nat), 0 ≤ c → c < fO h 1 4 → cz h' c z → cz h c z := fun c z c0 c1 w => by
    unfold cz at w ⊢
    rw [a4, List.getElem?_set_ne (by omega)] at w
    exact w
  have wx : ∀ z, cz h' (fO h 1 4) z → z = x := fun z w => by
    unfold cz at w
    rw [a4, List.getElem?_set_self (by omega)] at w
    exact (Option.some.inj (Option.some.inj w)).symm
  have zz : ∀ (c : Int) (z : Nat), 0 ≤ c → c < fO h 1 4 → cz h c z → h'[z]? = h[z]? := fun c z c0 c1 w => by
    have t := cz_ok hO w
    exact K z (by omega) (by omega) (fr c z c0 c1 w).1 (fun e => by
      have a := t.2
      rw [e, u3] at a
      exact absurd (congrArg Prod.fst a) (by decide))
  refine ⟨fun c z c0 c1 w => ?_, fun c d y z c0 c1 d0 d1 ne wy wz => ?_⟩
  · by_cases q : c < fO h 1 4
    · have w1 := oz c z c0 q w
      have t := cz_ok hO w1
      obtain ⟨-, -, ⟨g3, t3⟩, -⟩ := cm_ar hO t.2
      have o : SG1 ls h z := g.1 c z c0 q w1
      exact o.k hO t.2 ob (fun j _ => fA_c (zz c z c0 q w1) j) (arI_c (K _ (by omega) (by omega) (fun e => by rw [e, tx.2] at t3; exact absurd (congrArg Prod.fst t3) (by decide)) (fr c z c0 q w1).2)) e8
    · obtain rfl : c = fO h 1 4 := by omega
      obtain rfl := wx z w
      have e13 : rP h' z 13 = rP h z 13 := rP_e (kx 13 (by decide) (by decide) (by decide))
      have v : arI h' (rP h z 13) = arI h (rP h z 13) := arI_c (ob _ x2 (by rw [u2]; decide) (by rw [u2]; decide))
      have z0 : ∀ q : Int, gI h' (rP h' z 13) q = 0 := fun q => by
        rw [e13, gI_e v]
        exact nw.2.1 q
      have kb : ∀ p i, KBf h' z p i = 0 := fun p i => KBf_n (by rw [z0, e8]; omega)
      refine ⟨?_, fun q _ _ => by rw [z0, e8]; omega, fun p k e _ _ _ _ _ _ _ => ⟨fun q => ?_, fun q => ?_⟩⟩
      · have a1 := nw.1
        unfold CDz at a1 ⊢
        rw [fO_eA (kx 2 (by decide) (by decide) (by decide)), fO_eA (kx 3 (by decide) (by decide) (by decide)), fO_eA (kx 4 (by decide) (by decide) (by decide)), fO_eA (kx 5 (by decide) (by decide) (by decide)), rP_e (kx 11 (by decide) (by decide) (by decide))]
        exact ⟨a1.1, a1.2.1, a1.2.2.1, a1.2.2.2.1, fun e e0 e1 => by rw [gI_e (arI_c (ob _ x1 (by rw [u1]; decide) (by rw [u1]; decide)))]; exact a1.2.2.2.2 e e0 e1⟩
      · rw [kb] at q
        exact absurd q tb_0
      · rw [kb] at q
        exact absurd q tb_0
  · have e13 : rP h' x 13 = rP h x 13 := rP_e (kx 13 (by decide) (by decide) (by decide))
    have e12 : fA h' x 12 = some (.inr (.inr none)) := (kx 12 (by decide) (by decide) (by decide)).trans nw.2.2.1
    by_cases q : c < fO h 1 4
    · have w1 := oz c y c0 q wy
      by_cases r : d < fO h 1 4
      · have w2 := oz d z d0 r wz
        obtain ⟨a, b, s⟩ := g.2 c d y z c0 q d0 r ne w1 w2
        rw [rP_e (fA_c (zz c y c0 q w1) 13), rP_e (fA_c (zz d z d0 r w2) 13), fA_c (zz c y c0 q w1) 12, fA_c (zz d z d0 r w2) 12]
        exact ⟨a, b, s⟩
      · obtain rfl : d = fO h 1 4 := by omega
        obtain rfl := wx z wz
        refine ⟨(fr c y c0 q w1).1, ?_, fun s _ e => ?_⟩
        · rw [rP_e (fA_c (zz c y c0 q w1) 13), e13]
          exact nw.2.2.2 c y c0 q w1
        · rw [e12] at e
          cases e
    · obtain rfl : c = fO h 1 4 := by omega
      obtain rfl := wx y wy
      have r : d < fO h 1 4 := by omega
      have w2 := oz d z d0 r wz
      refine ⟨fun e => (fr d z d0 r w2).1 e.symm, ?_, fun s e => ?_⟩
      · rw [rP_e (fA_c (zz d z d0 r w2) 13), e13]
        exact fun e => nw.2.2.2 d z d0 r w2 e.symm
      · rw [e12] at e
        cases e
/-- all is forgotten -/
theorem SGc.fg {ls ls' : List (List (Int × Int) × List (Int × Int))} {W : List Nat} {h h' : aH} (g : SGc ls h) (hO : OK h) (u : un W h h') (w : ∀ k ∈ [4, 200, 223, 21202, 21203, 21204, 21205, 21211, 21212, 21213], k ∉ W) (n : fO h' 1 4 = fO h 1 4) (e8 : fO h' 8 4 = fO h 8 4 + 1) : SGc ls' h' := by
  have a4 : arR h' 4 = arR h 4 := arR_u4 hO u (w _ (by decide))
  have e13 : ∀ (c : Int) (z : Nat), cz h c z → rP h' z 13 = rP h z 13 := fun c z wz => by
    have t := cz_ok hO wz
    exact rP_e (fC_un hO u t.1 t.2 (by decide) (w _ (by decide)))
  have e12 : ∀ (c : Int) (z : Nat), cz h c z → fA h' z 12 = fA h z 12 := fun c z wz => by
    have t := cz_ok hO wz
    exact fC_un hO u t.1 t.2 (by decide) (w _ (by decide))
  have vg : ∀ (c : Int) (z : Nat), cz h c z → ∀ q, gI h' (rP h z 13) q = gI h (rP h z 13) q := fun c z wz q => by
    have t := cz_ok hO wz
    obtain ⟨v, -, ev, gv, tv⟩ := vP_ok hO t.2
    obtain ⟨xs, hc, hn, he⟩ := hO.int tv
    rw [ev]
    refine gI_e ?_ q
    rw [arI_of hc, arI_of (u.ka (n := 9) hc hn (scA_d gv) (by decide) (wid_v gv) (w 223 (by decide)))]
  refine ⟨fun c z c0 c1 wz => ?_, fun c d y z c0 c1 d0 d1 ne wy wz => ?_⟩
  · rw [n] at c1
    have w1 := cz_c a4 wz
    have t := cz_ok hO w1
    obtain ⟨o1, o2, -⟩ := g.1 c z c0 c1 w1
    have lt : ∀ q : Int, 0 ≤ q → q ≤ 8 → gI h' (rP h' z 13) q < fO h' 8 4 := fun q q0 q1 => by
      rw [e13 c z w1, vg c z w1, e8]
      have := o2 q q0 q1
      omega
    refine ⟨o1.un hO u t.1 t.2 (fun q hq => w q (by revert hq; revert q; decide)) (w _ (by decide)), fun q q0 q1 => by have := lt q q0 q1; omega, fun p k e p0 p1 _ _ _ _ _ => ?_⟩
    have kb : ∀ i, KBf h' z p i = 0 := fun i => KBf_n (by have := lt p p0 p1; omega)
    rw [kb, kb]
    exact ⟨fun q => absurd q tb_0, fun q => absurd q tb_0⟩
  · rw [n] at c1 d1
    have wy1 := cz_c a4 wy
    have wz1 := cz_c a4 wz
    rw [e13 c y wy1, e13 d z wz1, e12 c y wy1, e12 d z wz1]
    exact g.2 c d y z c0 c1 d0 d1 ne wy1 wz1
variable {d : Nat} {T : aTab} {Q : Option aV → aH → Prop} {pc : Nat} {al : aL} {st : List aV} {h : aH} {kc ks n i : Nat}
set_option maxRecDepth 20000 in
set_option maxHeartbeats 4000000 in
theorem sd_newCometD (hO : OK h) (p s nd rc w b pa : Int32) (r1 : 0 ≤ nd.toInt ∧ nd.toInt ≤ 359) (r2 : 5 ≤ rc.toInt ∧ rc.toInt ≤ 99) (r3 : w.toInt = 1 ∨ w.toInt = -1) (hQ : ∀ r h', r = none → OK h' → un [9002] h h' → (114 ≤ h.length ∧ tg h' h.length = (102, 14)) → nC h' ≤ nC h + 1 → (∃ ds : List Int32, ds.length = 241 ∧ (∀ j : Nat, (j : Int) < 241 → (ds.getD j 0).toInt = dgF nd.toInt w.toInt rc.toInt ((j : Int) - 120)) ∧ h' = h ++ ncL h p s nd rc w b pa ds) → Q r h') : uCall Mt (d + 2) 18 [.inr (.inr (some (h.length + 0))), .inl p, .inl s, .inl nd, .inl rc, .inl w, .inl b, .inl pa] (h ++ [.inl (2, [.inl 0, .inl 0, .inl 0, .inl 0, .inl 0, .inl 0, .inl 0, .inl 0, .inl 0, .inl 0, .inr (.inr none), .inr (.inr none), .inr (.inr none), .inr (.inr none)])]) kc ks Q := by
  refine uc_ink [some (.inr (.inr (some (h.length + 0)))), some (.inl p), some (.inl s), some (.inl nd), some (.inl rc), some (.inl w), some (.inl b), some (.inl pa), none] mt_18 (Nat.le_of_ble_eq_true rfl) rfl ?_
  refine ur_ldA rfl rfl ?_
  refine ur_obj rfl (Nat.le_of_ble_eq_true rfl) ?_
  refine ur_ldA rfl rfl ?_
  refine ur_push rfl ?_
  refine ur_putA (i0 := 0) (L' := [.inl (2, [.inl 0, .inl 0, .inl 0, .inl 0, .inl 0, .inl 0, .inl 0, .inl (-2000000000), .inl 0, .inl 0, .inr (.inr none), .inr (.inr none), .inr (.inr none), .inr (.inr none)])]) rfl rfl (Nat.le_of_ble_eq_true rfl) rfl rfl ?_
  refine ur_ldA rfl rfl ?_
  refine ur_push rfl ?_
  refine ur_putA (i0 := 0) (L' := [.inl (2, [.inl 0, .inl 0, .inl 0, .inl 0, .inl 0, .inl 0, .inl 0, .inl (-2000000000), .inl 0, .inl 0, .inr (.inr none), .inr (.inr none), .inr (.inr none), .inr (.inr none)])]) rfl rfl (Nat.le_of_ble_eq_true rfl) rfl rfl ?_
  refine ur_ldA rfl rfl ?_
  refine ur_push rfl ?_
  refine ur_putA (i0 := 0) (L' := [.inl (2, [.inl 0, .inl 0, .inl 0, .inl 0, .inl 0, .inl 0, .inl 0, .inl (-2000000000), .inl 0, .inl 0, .inr (.inr none), .inr (.inr none), .inr (.inr none), .inr (.inr none)])]) rfl rfl (Nat.le_of_ble_eq_true rfl) rfl rfl ?_
  refine ur_ldA rfl rfl ?_
  refine ur_push rfl ?_
  refine ur_newIA (L' := [.inl (2, [.inl 0, .inl 0, .inl 0, .inl 0, .inl 0, .inl 0, .inl 0, .inl (-2000000000), .inl 0, .inl 0, .inr (.inr none), .inr (.inr none), .inr (.inr none), .inr (.inr none)]), .inr (0, .inl (List.replicate 121 0))]) rfl (m := 121) (by decide) (by decide) (by decide) rfl ?_
  refine ur_putA (i0 := 0) (L' := [.inl (2, [.inl 0, .inl 0, .inl 0, .inl 0, .inl 0, .inl 0, .inl 0, .inl (-2000000000), .inl 0, .inl 0, .inr (.inr (some (h.length + 1))), .inr (.inr none), .inr (.inr none), .inr (.inr none)]), .inr (0, .inl (List.replicate 121 0))]) rfl rfl (Nat.le_of_ble_eq_true rfl) rfl rfl ?_
  refine ur_ldA rfl rfl ?_
  refine ur_push rfl ?_
  refine ur_newIA (L' := [.inl (2, [.inl 0, .inl 0, .inl 0, .inl 0, .inl 0, .inl 0, .inl 0, .inl (-2000000000), .inl 0, .inl 0, .inr (.inr (some (h.length + 1))), .inr (.inr none), .inr (.inr none), .inr (.inr none)]), .inr (0, .inl (List.replicate 121 0)), .inr (0, .inl (List.replicate 241 0))]) rfl (m := 241) (by decide) (by decide) (by decide) rfl ?_
  refine ur_putA (i0 := 0) (L' := [.inl (2, [.inl 0, .inl 0, .inl 0, .inl 0, .inl 0, .inl 0, .inl 0, .inl (-2000000000), .inl 0, .inl 0, .inr (.inr (some (h.length + 1))), .inr (.inr (some (h.length + 2))), .inr (.inr none), .inr (.inr none)]), .inr (0, .inl (List.replicate 121 0)), .inr (0, .inl (List.replicate 241 0))]) rfl rfl (Nat.le_of_ble_eq_true rfl) rfl rfl ?_
  refine ur_ldA rfl rfl ?_
  refine ur_push rfl ?_
  refine ur_putA (i0 := 0) (L' := [.inl (2, [.inl 0, .inl 0, .inl 0, .inl 0, .inl 0, .inl 0, .inl 0, .inl (-2000000000), .inl 0, .inl 0, .inr (.inr (some (h.length + 1))), .inr (.inr (some (h.length + 2))), .inr (.inr none), .inr (.inr none)]), .inr (0, .inl (List.replicate 121 0)), .inr (0, .inl (List.replicate 241 0))]) rfl rfl (Nat.le_of_ble_eq_true rfl) rfl rfl ?_
  refine ur_ldA rfl rfl ?_
  refine ur_push rfl ?_
  refine ur_newIA (L' := [.inl (2, [.inl 0, .inl 0, .inl 0, .inl 0, .inl 0, .inl 0, .inl 0, .inl (-2000000000), .inl 0, .inl 0, .inr (.inr (some (h.length + 1))), .inr (.inr (some (h.length + 2))), .inr (.inr none), .inr (.inr none)]), .inr (0, .inl (List.replicate 121 0)), .inr (0, .inl (List.replicate 241 0)), .inr (0, .inl (List.replicate 9 0))]) rfl (m := 9) (by decide) (by decide) (by decide) rfl ?_
  refine ur_putA (i0 := 0) (L' := [.inl (2, [.inl 0, .inl 0, .inl 0, .inl 0, .inl 0, .inl 0, .inl 0, .inl (-2000000000), .inl 0, .inl 0, .inr (.inr (some (h.length + 1))), .inr (.inr (some (h.length + 2))), .inr (.inr none), .inr (.inr (some (h.length + 3)))]), .inr (0, .inl (List.replicate 121 0)), .inr (0, .inl (List.replicate 241 0)), .inr (0, .inl (List.replicate 9 0))]) rfl rfl (Nat.le_of_ble_eq_true rfl) rfl rfl ?_
  refine ur_ldA rfl rfl ?_
  refine ur_ldI rfl rfl ?_
  refine ur_putA (i0 := 0) (L' := [.inl (2, [.inl p, .inl 0, .inl 0, .inl 0, .inl 0, .inl 0, .inl 0, .inl (-2000000000), .inl 0, .inl 0, .inr (.inr (some (h.length + 1))), .inr (.inr (some (h.length + 2))), .inr (.inr none), .inr (.inr (some (h.length + 3)))]), .inr (0, .inl (List.replicate 121 0)), .inr (0, .inl (List.replicate 241 0)), .inr (0, .inl (List.replicate 9 0))]) rfl rfl (Nat.le_of_ble_eq_true rfl) rfl rfl ?_
  refine ur_ldA rfl rfl ?_
  refine ur_ldI rfl rfl ?_
  refine ur_putA (i0 := 0) (L' := [.inl (2, [.inl p, .inl s, .inl 0, .inl 0, .inl 0, .inl 0, .inl 0, .inl (-2000000000), .inl 0, .inl 0, .inr (.inr (some (h.length + 1))), .inr (.inr (some (h.length + 2))), .inr (.inr none), .inr (.inr (some (h.length + 3)))]), .inr (0, .inl (List.replicate 121 0)), .inr (0, .inl (List.replicate 241 0)), .inr (0, .inl (List.replicate 9 0))]) rfl rfl (Nat.le_of_ble_eq_true rfl) rfl rfl ?_
  refine ur_ldA rfl rfl ?_
  refine ur_ldI rfl rfl ?_
  refine ur_putA (i0 := 0) (L' := [.inl (2, [.inl p, .inl s, .inl nd, .inl 0, .inl 0, .inl 0, .inl 0, .inl (-2000000000), .inl 0, .inl 0, .inr (.inr (some (h.length + 1))), .inr (.inr (some (h.length + 2))), .inr (.inr none), .inr (.inr (some (h.length + 3)))]), .inr (0, .inl (List.replicate 121 0)), .inr (0, .inl (List.replicate 241 0)), .inr (0, .inl (List.replicate 9 0))]) rfl rfl (Nat.le_of_ble_eq_true rfl) rfl rfl ?_
  refine ur_ldA rfl rfl ?_
  refine ur_ldI rfl rfl ?_
  refine ur_putA (i0 := 0) (L' := [.inl (2, [.inl p, .inl s, .inl nd, .inl rc, .inl 0, .inl 0, .inl 0, .inl (-2000000000), .inl 0, .inl 0, .inr (.inr (some (h.length + 1))), .inr (.inr (some (h.length + 2))), .inr (.inr none), .inr (.inr (some (h.length + 3)))]), .inr (0, .inl (List.replicate 121 0)), .inr (0, .inl (List.replicate 241 0)), .inr (0, .inl (List.replicate 9 0))]) rfl rfl (Nat.le_of_ble_eq_true rfl) rfl rfl ?_
  refine ur_ldA rfl rfl ?_
  refine ur_ldI rfl rfl ?_
  refine ur_putA (i0 := 0) (L' := [.inl (2, [.inl p, .inl s, .inl nd, .inl rc, .inl w, .inl 0, .inl 0, .inl (-2000000000), .inl 0, .inl 0, .inr (.inr (some (h.length + 1))), .inr (.inr (some (h.length + 2))), .inr (.inr none), .inr (.inr (some (h.length + 3)))]), .inr (0, .inl (List.replicate 121 0)), .inr (0, .inl (List.replicate 241 0)), .inr (0, .inl (List.replicate 9 0))]) rfl rfl (Nat.le_of_ble_eq_true rfl) rfl rfl ?_
  refine ur_ldA rfl rfl ?_
  refine ur_ldI rfl rfl ?_
  refine ur_putA (i0 := 0) (L' := [.inl (2, [.inl p, .inl s, .inl nd, .inl rc, .inl w, .inl b, .inl 0, .inl (-2000000000), .inl 0, .inl 0, .inr (.inr (some (h.length + 1))), .inr (.inr (some (h.length + 2))), .inr (.inr none), .inr (.inr (some (h.length + 3)))]), .inr (0, .inl (List.replicate 121 0)), .inr (0, .inl (List.replicate 241 0)), .inr (0, .inl (List.replicate 9 0))]) rfl rfl (Nat.le_of_ble_eq_true rfl) rfl rfl ?_
  refine ur_ldA rfl rfl ?_
  refine ur_ldI rfl rfl ?_
  refine ur_putA (i0 := 0) (L' := [.inl (2, [.inl p, .inl s, .inl nd, .inl rc, .inl w, .inl b, .inl pa, .inl (-2000000000), .inl 0, .inl 0, .inr (.inr (some (h.length + 1))), .inr (.inr (some (h.length + 2))), .inr (.inr none), .inr (.inr (some (h.length + 3)))]), .inr (0, .inl (List.replicate 121 0)), .inr (0, .inl (List.replicate 241 0)), .inr (0, .inl (List.replicate 9 0))]) rfl rfl (Nat.le_of_ble_eq_true rfl) rfl rfl ?_
  refine ur_push rfl ?_
  refine ur_svIk [some (.inr (.inr (some (h.length + 0)))), some (.inl p), some (.inl s), some (.inl nd), some (.inl rc), some (.inl w), some (.inl b), some (.inl pa), some (.inl 0)] rfl rfl ?_
  have loop : ∀ (k : Nat) (z : Int32) (ds : List Int32), ds.length = 241 → (∀ j : Nat, (j : Int) < z.toInt → (ds.getD j 0).toInt = dgF nd.toInt w.toInt rc.toInt ((j : Int) - 120)) → 0 ≤ z.toInt → (241 - z.toInt).toNat < k → uRun oX2_init (uCall Mt (d + 1)) Q 92 ([some (.inr (.inr (some (h.length + 0)))), some (.inl p), some (.inl s), some (.inl nd), some (.inl rc), some (.inl w), some (.inl b), some (.inl pa), some (.inl z)], [], h ++ ncL h p s nd rc w b pa ds, kc, ks) := by
    intro k
    induction k with
    | zero => intro z ds _ _ _ hk; omega
    | succ k ih =>
      intro z ds hd hg hz hk
      have l_120 : ((120) : Int32).toInt = 120 := by decide
      have l_241 : ((241) : Int32).toInt = 241 := by decide
      have l_1 : ((1) : Int32).toInt = 1 := by decide
      have l_360 : ((360) : Int32).toInt = 360 := by decide
      refine ur_ldI rfl rfl ?_
      refine ur_push rfl ?_
      refine ur_if2 rfl (fun c => ?_) (fun c => ?_)
      · obtain ⟨a1, a2, a3⟩ := ncL_ok hO (p := p) (s := s) (nd := nd) (rc := rc) (w := w) (b := b) (pa := pa) hd
        exact ur_ret0 rfl (hQ _ _ rfl a1 a2 ⟨hO.len, a3⟩ (nC_app1 rfl) ⟨_, hd, fun j hj => hg j (by have q := Int32.le_iff_toInt_le.mp (of_decide_eq_true c); omega), rfl⟩)
      · have t := le_no c
        refine ur_ldA rfl rfl ?_
        refine ur_get rfl (ap_get (j := 0)) rfl ?_
        refine ur_ldI rfl rfl ?_
        refine ur_ldI rfl rfl ?_
        refine ur_ldI rfl rfl ?_
        refine ur_ldI rfl rfl ?_
        refine ur_push rfl ?_
        refine ur_binV rfl (fun x1 e1 => ?_)
        have t1 := ti_sub e1 (by omega) (by omega)
        refine ur_ldI rfl rfl ?_
        refine ur_inl rfl rfl (Nat.le_of_ble_eq_true rfl) (Nat.le_of_ble_eq_true rfl) (sd_X11_turned (ncL_ok hO (p := p) (s := s) (nd := nd) (rc := rc) (w := w) (b := b) (pa := pa) hd).1 _ (by omega) _ (by omega) _ r2 r3 (fun r hr => ?_))
        obtain ⟨x2, rfl, x2e, x2a, x2b⟩ := hr
        show uRun _ (uCall Mt _) _ 119 (_, [.inl x2, .inl nd, .inl z, .inr (.inr (some (h.length + 2)))], _, _, _)
        refine ur_binV rfl (fun x3 e3 => ?_)
        have t3 := ti_add e3 (by omega) (by omega)
        refine ur_push rfl ?_
        refine ur_binV rfl (fun x4 e4 => ?_)
        have t4 := ti_add e4 (by omega) (by omega)
        refine ur_push rfl ?_
        refine ur_divV rfl (by decide) (fun x5 e5 => ?_)
        have t5 := ti_rem e5 l_360 (by decide) (by omega)
        refine ur_ast rfl (ap_get (j := 2)) (pos_ix hz) (by show z.toInt.toNat < ds.length; omega) ?_
        rw [ap_set]
        refine ur_incV (fun z => [some (.inr (.inr (some (h.length + 0)))), some (.inl p), some (.inl s), some (.inl nd), some (.inl rc), some (.inl w), some (.inl b), some (.inl pa), some (.inl z)]) rfl rfl (fun _ => rfl) (fun z2 e6 => ?_)
        have := any_r z
        have t2 := ti_add e6 (by omega) (by omega)
        refine ur_go rfl ?_
        exact ih z2 (ds.set z.toInt.toNat x5) (by rw [List.length_set]; exact hd) (fun j hj => by
          by_cases q : j = z.toInt.toNat
          · subst q
            rw [List.getD_eq_getElem?_getD, List.getElem?_set_self (by omega)]
            show x5.toInt = _
            rw [show ((z.toInt.toNat : Nat) : Int) - 120 = x1.toInt by omega]
            unfold dgF
            omega
          · rw [List.getD_eq_getElem?_getD, List.getElem?_set_ne (fun e => q e.symm), ← List.getD_eq_getElem?_getD]
            exact hg j (by omega)) (by omega) (by omega)
  exact loop 242 0 (List.replicate 241 0) (List.length_replicate ..) (fun j hj => absurd hj (by show ¬ ((j : Int) < ((0) : Int32).toInt); rw [show ((0) : Int32).toInt = 0 from by decide]; omega)) (by decide) (by decide)
set_option maxRecDepth 20000 in
set_option maxHeartbeats 4000000 in
theorem se_X6_addComet {d kc ks : Nat} {h0 : aH} {Q : Option aV → aH → Prop} {ls : List (List (Int × Int) × List (Int × Int))} (hO0 : OK h0) {a1 : Nat} (g1 : 114 ≤ a1) (t1 : tg h0 a1 = (102, 14)) (pre0 : SKc h0) (pre1 : fO h0 1 4 ≤ 11) (pre2 : ∀ (c : Int) (z : Nat), 0 ≤ c → c < fO h0 1 4 → cz h0 c z → z ≠ a1 ∧ qP h0 z ≠ qP h0 a1) (pre3 : CMz h0 (fO h0 1 4) a1) (pre4 : SGc ls h0) (pre5 : NWx h0 a1) (pre6 : 1 ≤ fO h0 8 4) (hQ : ∀ r h', (∃ x : Int32, r = some (.inl x) ∧ (x.toInt = (fO h0 1 4) ∧ fO h' 1 4 = (fO h0 1 4) + 1)) → OK h' → un [4, 221, 1104, 21208, 21209] h0 h' → (nC h' ≤ nC h0 + 0) → (SKc h') → (KCc 8 h0 h') → (cz h' (fO h0 1 4) a1) → (SGc ls h') → Q r h') : uCall Mt (d + 5) 59 [(.inr (.inr (some 1))), (.inr (.inr (some a1)))] h0 kc ks Q := by
  have l_1 : ((1) : Int32).toInt = 1 := by decide
  have l_12 : ((12) : Int32).toInt = 12 := by decide
  refine uc_ink [some (.inr (.inr (some 1))), some (.inr (.inr (some a1)))] mt_59 (Nat.le_of_ble_eq_true rfl) rfl ?_
  obtain ⟨f2, f3, hc1, k4⟩ := ok_1 hO0
  have t5 := fO_of (k := 2) hc1 rfl
  have t6 := fO_of (k := 4) hc1 rfl
  refine ur_ldA rfl rfl ?_
  refine ur_get rfl hc1 rfl ?_
  refine ur_push rfl ?_
  refine ur_if2 rfl (fun c7 => ?_) (fun c7 => ?_)
  · have t8 := lt_to c7
    refine ur_ldA rfl rfl ?_
    refine ur_get rfl hc1 rfl ?_
    refine ur_ldA rfl rfl ?_
    refine ur_get rfl hc1 rfl ?_
    refine ur_ldA rfl rfl ?_
    obtain ⟨g29, f10, f11, f12, f13, f14, f15, f16, f17, f18, f19, q20, q21, o22, q23, hc9, k24, k25, k26, k27, k28⟩ := hO0.comet t1
    obtain ⟨xs31, hc30, hn32, he33⟩ := hO0.com (hO0.fix 4 (by decide) rfl)
    refine ur_astAV (W := [4]) (m := 12) rfl hO0 hc30 hc9 (Or.inl ⟨rfl, g29, t1⟩) hn32 (by omega) (Or.inr (Or.inr (wid_fix (by decide) (by decide)))) (fun h36 hO36 hv36 d34 hc35 => ?_)
    have hu36 : un [4, 221, 1104, 21208, 21209] h0 h36 := hv36.mono (by decide)
    refine ur_ldA rfl rfl ?_
    refine ur_dup rfl rfl ?_
    refine ur_get rfl ((d34 _ (by decide)).trans hc1) rfl ?_
    have t37 := fO_of (k := 2) ((d34 _ (by decide)).trans hc1) rfl
    have t38 := fO_of (k := 4) ((d34 _ (by decide)).trans hc1) rfl
    refine ur_push rfl ?_
    refine ur_binV rfl (fun x39 e40 => ?_)
    have z41 := any_r f3
    have t42 := ti_add e40 (by omega) (by omega)
    refine ur_putV (W := [1104]) (fs' := [(.inr (.inr (some 2))), (.inr (.inr (some 3))), (.inl f2), (.inr (.inr (some 4))), (.inl x39)]) rfl hO36 ((d34 _ (by decide)).trans hc1) (Nat.le_of_ble_eq_true rfl) rfl rfl ⟨rfl, _, _, rfl, by omega⟩ rfl (Or.inr (by show 1000 + 100 * wid 1 (106, 5) + 4 ∈ _; rw [(wid_f (by decide))]; decide)) (fun h44 hO44 hv44 d43 hc45 => ?_)
    have hu44 : un [4, 221, 1104, 21208, 21209] h36 h44 := hv44.mono (by decide)
    have t46 := fO_of (k := 2) hc45 rfl
    have t47 := fO_of (k := 4) hc45 rfl
    have t48 := fO_keep (a := 1) (ci := 6) (n := 5) (k := 2) hO0 hO36 hv36 (by decide) rfl (by decide) rfl (by decide)
    have K49 : ∀ b : Nat, b ≠ 4 → b ≠ 1 → h44[b]? = h0[b]? := fun b b4 b1 => (d43 b b1).trans (d34 b b4)
    have r51 := pre3
    unfold CMz CMr at r51
    have P50 := SKi.push (n := fO h0 1 4) pre0 hO0 rfl (by omega) ⟨g1, t1⟩ pre2 K49 ((arR_c (d43 4 (by decide))).trans (by rw [arR_of hc35, ← (show arR h0 4 = _ from arR_of hc30), show f3.toInt.toNat = (fO h0 1 4).toNat from congrArg Int.toNat (show f3.toInt = fO h0 1 4 by omega)])) (by omega) (by omega) pre3
    have t52 : fO h44 a1 0 = fO h0 a1 0 ∧ fO h44 a1 1 = fO h0 a1 1 := ⟨fO_c (K49 a1 (by omega) (by omega)) 0, fO_c (K49 a1 (by omega) (by omega)) 1⟩
    have A453 : arR h44 4 = (arR h0 4).set (fO h0 1 4).toNat (some a1) := (arR_c (d43 4 (by decide))).trans (by rw [arR_of hc35, ← (show arR h0 4 = _ from arR_of hc30), show f3.toInt.toNat = (fO h0 1 4).toNat from congrArg Int.toNat (show f3.toInt = fO h0 1 4 by omega)])
    refine ur_ldA rfl rfl ?_
    refine ur_ldA rfl rfl ?_
    refine ur_inl rfl (rcv_of hc45) (Nat.le_of_ble_eq_true rfl) (Nat.le_of_ble_eq_true rfl) (sd_X6_reckonReturns hO44 g29 (hu44.tm (hu36.tm t1 (by decide)) (by decide)) P50.1.1 (by omega) (by omega) (fun w54 h58 hr55 hO58 hv58 hp56 hp57 => ?_))
    have hu58 : un [4, 221, 1104, 21208, 21209] h44 h58 := hv58.mono (by decide)
    subst hr55
    show uRun _ (uCall Mt _) _ 37 (_, [], _, _, _)
    have t59 := fO_of (k := 2) (hv58.ko (n := 5) hc45 rfl (wid_f (by decide)) (by decide)) rfl
    have t60 := fO_of (k := 4) (hv58.ko (n := 5) hc45 rfl (wid_f (by decide)) (by decide)) rfl
    have S61 := SKi.step (i := fO h0 1 4) P50.1 hO44 (by omega) (by omega) P50.2.1 hp57 hv58 hp56 rfl
    have S62 := S61.2
    refine ur_ldA rfl rfl ?_
    refine ur_get rfl (hv58.ko (n := 5) hc45 rfl (wid_f (by decide)) (by decide)) rfl ?_
    refine ur_push rfl ?_
    refine ur_binV rfl (fun x63 e64 => ?_)
    have z65 := any_r x39
    have t66 := ti_sub e64 (by omega) (by omega)
    have t67 := fO_keep (a := 1) (ci := 6) (n := 5) (k := 2) hO44 hO58 hv58 (by decide) rfl (by decide) rfl (by decide)
    have t68 := hv36.nC (by decide)
    have t69 := hv44.nC (by decide)
    have t70 := hv58.nC (by decide)
    exact ur_ret rfl rfl (hQ _ _ ⟨_, rfl, by omega⟩ hO58 (hu36.tr (hu44.tr hu58)) (by omega) (by unfold SKc; rw [S62, show fO h44 1 4 = fO h0 1 4 + 1 by omega]; exact S61.1) ((KCc.push hO0 rfl K49 P50.2.2).tr (KCc.un hO44 hv58 (by decide) (by decide) (by decide)) (by omega)) (cz_c (arR_u4 hO44 hv58 (by decide)).symm P50.2.1) (SGc.push pre4 hO0 pre5 ⟨g1, t1⟩ pre2 (fun b b4 b1 bx bq => (hp57 b bx (by rw [show qP h44 a1 = qP h0 a1 from qP_e (fA_c (K49 a1 (by omega) (by omega)) 10)]; exact bq)).trans (K49 b b4 b1)) ((arR_u4 hO44 hv58 (by decide)).trans A453) (S62.trans (by omega)) (by omega) (fun k hk n8 n9 => (fC_un hO44 hv58 g1 (hu44.tm (hu36.tm t1 (by decide)) (by decide)) hk (by intro q; simp only [List.mem_cons, List.not_mem_nil, or_false] at q; omega)).trans (fA_c (K49 a1 (by omega) (by omega)) k)) pre6))
  · have t71 := lt_no c7
    exfalso
    omega

set_option maxRecDepth 20000 in
set_option maxHeartbeats 4000000 in
theorem se_X11_comet {d kc ks : Nat} {h0 : aH} {Q : Option aV → aH → Prop} {ls : List (List (Int × Int) × List (Int × Int))} (hO0 : OK h0) (a1 : Int32) (a2 : Int32) (a3 : Int32) (a4 : Int32) (pre0 : SKc h0) (pre1 : SGc ls h0) (pre2 : 1 ≤ fO h0 8 4) (hQ : ∀ r h', (∃ x : Int32, r = some (.inl x) ∧ (¬ (((0 ≤ a1.toInt ∧ a1.toInt ≤ 999999) ∧ (200 ≤ a2.toInt ∧ a2.toInt ≤ 40000) ∧ (0 ≤ a3.toInt ∧ a3.toInt ≤ 199999) ∧ (a3.toInt % 100000) / 100 ≤ 359 ∧ 5 ≤ a3.toInt % 100 ∧ (0 ≤ a4.toInt ∧ a4.toInt ≤ 9))) ∧ x.toInt = -1 ∧ fO h' 1 4 = fO h0 1 4 ∨ (((0 ≤ a1.toInt ∧ a1.toInt ≤ 999999) ∧ (200 ≤ a2.toInt ∧ a2.toInt ≤ 40000) ∧ (0 ≤ a3.toInt ∧ a3.toInt ≤ 199999) ∧ (a3.toInt % 100000) / 100 ≤ 359 ∧ 5 ≤ a3.toInt % 100 ∧ (0 ≤ a4.toInt ∧ a4.toInt ≤ 9))) ∧ 12 ≤ fO h0 1 4 ∧ x.toInt = -3 ∧ fO h' 1 4 = fO h0 1 4 ∨ (((0 ≤ a1.toInt ∧ a1.toInt ≤ 999999) ∧ (200 ≤ a2.toInt ∧ a2.toInt ≤ 40000) ∧ (0 ≤ a3.toInt ∧ a3.toInt ≤ 199999) ∧ (a3.toInt % 100000) / 100 ≤ 359 ∧ 5 ≤ a3.toInt % 100 ∧ (0 ≤ a4.toInt ∧ a4.toInt ≤ 9))) ∧ fO h0 1 4 < 12 ∧ x.toInt = fO h0 1 4 + 0 ∧ fO h' 1 4 = fO h0 1 4 + 1)) → OK h' → un [4, 221, 1104, 9002, 21208, 21209] h0 h' → (nC h' ≤ nC h0 + 1) → (SKc h') → (KCc 8 h0 h') → (imG (fO h' 1 4 = fO h0 1 4 + 1) (∃ z, NCz h' (fO h0 1 4) z a1.toInt a2.toInt ((a3.toInt % 100000) / 100) (a3.toInt % 100) ((if 100000 ≤ a3.toInt then -1 else 1)) a4.toInt (-1))) → (SGc ls h') → Q r h') : uCall Mt (d + 6) 125 [(.inr (.inr (some 0))), (.inl a1), (.inl a2), (.inl a3), (.inl a4)] h0 kc ks Q := by
  have l_m3 : ((-3) : Int32).toInt = -3 := by decide
  have l_m1 : ((-1) : Int32).toInt = -1 := by decide
  have l_0 : ((0) : Int32).toInt = 0 := by decide
  have l_1 : ((1) : Int32).toInt = 1 := by decide
  have l_5 : ((5) : Int32).toInt = 5 := by decide
  have l_9 : ((9) : Int32).toInt = 9 := by decide
  have l_12 : ((12) : Int32).toInt = 12 := by decide
  have l_100 : ((100) : Int32).toInt = 100 := by decide
  have l_200 : ((200) : Int32).toInt = 200 := by decide
  have l_360 : ((360) : Int32).toInt = 360 := by decide
  have l_40000 : ((40000) : Int32).toInt = 40000 := by decide
  have l_100000 : ((100000) : Int32).toInt = 100000 := by decide
  have l_199999 : ((199999) : Int32).toInt = 199999 := by decide
  have l_999999 : ((999999) : Int32).toInt = 999999 := by decide
  refine uc_ink [some (.inr (.inr (some 0))), some (.inl a1), some (.inl a2), some (.inl a3), some (.inl a4), none, none, none] mt_125 (Nat.le_of_ble_eq_true rfl) rfl ?_
  obtain ⟨f2, f3, hc1, k4⟩ := ok_1 hO0
  have t5 := fO_of (k := 4) hc1 rfl
  refine ur_ldI rfl rfl ?_
  refine ur_push rfl ?_
  refine ur_push rfl ?_
  refine ur_callv rfl rfl (Nat.le_of_ble_eq_true rfl) (Nat.le_of_ble_eq_true rfl) rfl (sp_within _ _ _ _ _) ?_
  refine ur_eqB rfl (fun c8 => ?_) (fun c8 => ?_)
  · have t9 := wi_noL c8 l_0 l_999999
    refine ur_push rfl ?_
    exact ur_ret rfl rfl (hQ _ _ ⟨_, rfl, Or.inl ⟨fun q => by omega, by omega, by omega⟩⟩ hO0 un.rf (by omega) pre0 KCc.rf (fun q => by exfalso; omega) pre1)
  · have t10 := wi_toL c8 l_0 l_999999
    refine ur_ldI rfl rfl ?_
    refine ur_push rfl ?_
    refine ur_push rfl ?_
    refine ur_callv rfl rfl (Nat.le_of_ble_eq_true rfl) (Nat.le_of_ble_eq_true rfl) rfl (sp_within _ _ _ _ _) ?_
    refine ur_neB rfl (fun c13 => ?_) (fun c13 => ?_)
    · have t14 := wi_toL c13 l_200 l_40000
      refine ur_ldI rfl rfl ?_
      refine ur_push rfl ?_
      refine ur_push rfl ?_
      refine ur_callv rfl rfl (Nat.le_of_ble_eq_true rfl) (Nat.le_of_ble_eq_true rfl) rfl (sp_within _ _ _ _ _) ?_
      refine ur_eqB rfl (fun c17 => ?_) (fun c17 => ?_)
      · have t18 := wi_noL c17 l_0 l_199999
        refine ur_push rfl ?_
        exact ur_ret rfl rfl (hQ _ _ ⟨_, rfl, Or.inl ⟨fun q => by omega, by omega, by omega⟩⟩ hO0 un.rf (by omega) pre0 KCc.rf (fun q => by exfalso; omega) pre1)
      · have t19 := wi_toL c17 l_0 l_199999
        refine ur_ldI rfl rfl ?_
        refine ur_push rfl ?_
        refine ur_push rfl ?_
        refine ur_callv rfl rfl (Nat.le_of_ble_eq_true rfl) (Nat.le_of_ble_eq_true rfl) rfl (sp_within _ _ _ _ _) ?_
        refine ur_neB rfl (fun c22 => ?_) (fun c22 => ?_)
        · have t23 := wi_toL c22 l_0 l_9
          refine ur_ldI rfl rfl ?_
          refine ur_push rfl ?_
          refine ur_divV rfl (by decide) (fun x24 e25 => ?_)
          have z26 := any_r a3
          have t27 := ti_rem e25 l_100000 (by decide) (by omega)
          refine ur_push rfl ?_
          refine ur_divV rfl (by decide) (fun x28 e29 => ?_)
          have z30 := any_r x24
          have t31 := ti_div e29 l_100 (by decide) (by omega)
          refine ur_svIk [some (.inr (.inr (some 0))), some (.inl a1), some (.inl a2), some (.inl a3), some (.inl a4), some (.inl x28), none, none] rfl rfl ?_
          refine ur_ldI rfl rfl ?_
          refine ur_push rfl ?_
          refine ur_divV rfl (by decide) (fun x32 e33 => ?_)
          have t34 := ti_rem e33 l_100 (by decide) (by omega)
          refine ur_svIk [some (.inr (.inr (some 0))), some (.inl a1), some (.inl a2), some (.inl a3), some (.inl a4), some (.inl x28), some (.inl x32), none] rfl rfl ?_
          refine ur_ldI rfl rfl ?_
          refine ur_push rfl ?_
          refine ur_if2 rfl (fun c35 => ?_) (fun c35 => ?_)
          · have t36 := le_to c35
            refine ur_push rfl ?_
            exact ur_ret rfl rfl (hQ _ _ ⟨_, rfl, Or.inl ⟨fun q => by omega, by omega, by omega⟩⟩ hO0 un.rf (by omega) pre0 KCc.rf (fun q => by exfalso; omega) pre1)
          · have t37 := le_no c35
            refine ur_ldI rfl rfl ?_
            refine ur_push rfl ?_
            refine ur_if2 rfl (fun c38 => ?_) (fun c38 => ?_)
            · have t39 := le_to c38
              refine ur_ldA rfl rfl ?_
              obtain ⟨hc40, k41⟩ := ok_0 hO0
              refine ur_get rfl hc40 rfl ?_
              refine ur_get rfl hc1 rfl ?_
              refine ur_push rfl ?_
              refine ur_if2 rfl (fun c42 => ?_) (fun c42 => ?_)
              · have t43 := lt_to c42
                refine ur_ldI rfl rfl ?_
                refine ur_push rfl ?_
                refine ur_if2 rfl (fun c44 => ?_) (fun c44 => ?_)
                · have t45 := lt_to c44
                  refine ur_push rfl ?_
                  refine ur_svIk [some (.inr (.inr (some 0))), some (.inl a1), some (.inl a2), some (.inl a3), some (.inl a4), some (.inl x28), some (.inl x32), some (.inl 1)] rfl rfl ?_
                  refine ur_ldA rfl rfl ?_
                  refine ur_get rfl hc40 rfl ?_
                  refine ur_new rfl (Nat.le_of_ble_eq_true rfl) ?_
                  refine ur_dup rfl rfl ?_
                  refine ur_ldI rfl rfl ?_
                  refine ur_ldI rfl rfl ?_
                  refine ur_ldI rfl rfl ?_
                  refine ur_ldI rfl rfl ?_
                  refine ur_ldI rfl rfl ?_
                  refine ur_ldI rfl rfl ?_
                  refine ur_push rfl ?_
                  refine ur_inl rfl (rcv_of ap_0) (Nat.le_of_ble_eq_true rfl) (Nat.le_of_ble_eq_true rfl) (sd_newCometD hO0 _ _ _ _ _ _ _ (by show 0 ≤ x28.toInt ∧ x28.toInt ≤ 359; omega) (by show 5 ≤ x32.toInt ∧ x32.toInt ≤ 99; omega) (by show (1 : Int32).toInt = 1 ∨ (1 : Int32).toInt = -1; first | omega | decide) (fun w47 h50 hr48 hO50 hv50 k49 hn56 hx51 => ?_))
                  obtain ⟨ds53, hd54, hg55, hx51⟩ := hx51
                  have hc52 : h50[h0.length]? = some (.inl (2, [.inl a1, .inl a2, .inl x28, .inl x32, .inl 1, .inl a4, .inl (-1), .inl (-2000000000), .inl 0, .inl 0, .inr (.inr (some (h0.length + 1))), .inr (.inr (some (h0.length + 2))), .inr (.inr none), .inr (.inr (some (h0.length + 3)))])) := by rw [hx51]; exact (ap_get (j := 0)).trans rfl
                  have hu50 : un [4, 221, 1104, 9002, 21208, 21209] h0 h50 := hv50.mono (by decide)
                  subst hr48
                  show uRun _ (uCall Mt _) _ 128 (_, [(.inr (.inr (some h0.length))), (.inr (.inr (some 1)))], _, _, _)
                  have fr57 : ∀ (c : Int) (z : Nat), 0 ≤ c → c < fO h50 1 4 → cz h50 c z → z ≠ h0.length ∧ qP h50 z ≠ qP h50 (h0.length) := fun c z _ _ w => cm_fr hO0 rfl (fun b hb => by rw [hx51]; exact List.getElem?_append_left hb) (fA_of (k := 10) hc52) c z (cz_c (arR_u4 hO0 hv50 (by decide)) w)
                  have t58 : fO h50 (h0.length) 0 = (a1 : Int32).toInt := fO_fA (fA_of (k := 0) hc52)
                  have t59 : fO h50 (h0.length) 1 = (a2 : Int32).toInt := fO_fA (fA_of (k := 1) hc52)
                  have t60 : fO h50 (h0.length) 2 = (x28 : Int32).toInt := fO_fA (fA_of (k := 2) hc52)
                  have t61 : fO h50 (h0.length) 3 = (x32 : Int32).toInt := fO_fA (fA_of (k := 3) hc52)
                  have t62 : fO h50 (h0.length) 4 = (1 : Int32).toInt := fO_fA (fA_of (k := 4) hc52)
                  have t63 : fO h50 (h0.length) 5 = (a4 : Int32).toInt := fO_fA (fA_of (k := 5) hc52)
                  have t64 : fO h50 (h0.length) 6 = ((-1) : Int32).toInt := fO_fA (fA_of (k := 6) hc52)
                  have t66 := fO_of (k := 4) (hv50.ko (n := 5) hc1 rfl (wid_f (by decide)) (by decide)) rfl
                  have t67 := fO_keep (a := 1) (ci := 6) (n := 5) (k := 4) hO0 hO50 hv50 (by decide) rfl (by decide) rfl (by decide)
                  have m65 : CMz h50 (fO h50 1 4) (h0.length) := by unfold CMz CMr; omega
                  have nw68 : NWx h50 h0.length := NWx.of hO0 hx51 (arR_u4 hO0 hv50 (by decide)) hg55 (by omega) (by omega) (by first | omega | decide) (by omega)
                  have t69 := fO_of (k := 2) (hv50.ko (n := 5) hc1 rfl (wid_f (by decide)) (by decide)) rfl
                  refine ur_inl rfl (rcv_of (hv50.ko (n := 5) hc1 rfl (wid_f (by decide)) (by decide))) (Nat.le_of_ble_eq_true rfl) (Nat.le_of_ble_eq_true rfl) (se_X6_addComet hO50 k49.1 k49.2 (pre0.un hO0 hO50 hv50 (by decide)) (by omega) fr57 m65 (pre1.uk hO0 hO50 hv50 (by decide)) nw68 (by rw [fO_keep (a := 8) (ci := 5) (n := 5) (k := 4) hO0 hO50 hu50 (by decide) rfl (by decide) rfl (by decide)]; exact pre2) (fun w70 h77 hr71 hO77 hv77 hp72 hp73 hp74 hp75 hp76 => ?_))
                  have hu77 : un [4, 221, 1104, 9002, 21208, 21209] h50 h77 := hv77.mono (by decide)
                  obtain ⟨x78, rfl, t79⟩ := hr71
                  show uRun _ (uCall Mt _) _ 131 (_, [(.inl x78)], _, _, _)
                  obtain ⟨f81, f82, hc80, k83⟩ := ok_1 hO77
                  have t84 := fO_of (k := 4) hc80 rfl
                  have t85 := hv77.nC (by decide)
                  exact ur_ret rfl rfl (hQ _ _ ⟨_, rfl, Or.inr (Or.inr ⟨⟨by omega, by omega, by omega, by omega, by omega, by omega⟩, by omega, by omega, by omega⟩)⟩ hO77 (hu50.tr hu77) (by omega) hp73 ((KCc.un hO0 hv50 (by decide) (by decide) (by decide)).tr hp74 (by omega)) (fun _ => ⟨h0.length, (by have q := hp75; rw [show fO h50 1 4 = fO h0 1 4 by omega] at q; exact q), (fO_fA ((fC_un hO50 hv77 k49.1 k49.2 (by decide) (by decide)).trans (fA_of (k := 0) hc52))), (fO_fA ((fC_un hO50 hv77 k49.1 k49.2 (by decide) (by decide)).trans (fA_of (k := 1) hc52))), (fO_fA ((fC_un hO50 hv77 k49.1 k49.2 (by decide) (by decide)).trans (fA_of (k := 2) hc52))).trans (by omega), (fO_fA ((fC_un hO50 hv77 k49.1 k49.2 (by decide) (by decide)).trans (fA_of (k := 3) hc52))).trans (by omega), (fO_fA ((fC_un hO50 hv77 k49.1 k49.2 (by decide) (by decide)).trans (fA_of (k := 4) hc52))).trans ((show (1 : Int32).toInt = 1 by decide).trans (if_neg (by omega)).symm), (fO_fA ((fC_un hO50 hv77 k49.1 k49.2 (by decide) (by decide)).trans (fA_of (k := 5) hc52))), (fO_fA ((fC_un hO50 hv77 k49.1 k49.2 (by decide) (by decide)).trans (fA_of (k := 6) hc52))).trans (by decide), (fO_fA ((fC_un hO50 hv77 k49.1 k49.2 (by decide) (by decide)).trans (fA_of (k := 7) hc52))).trans (by decide)⟩) hp76)
                · have t86 := lt_no c44
                  refine ur_push rfl ?_
                  refine ur_go rfl ?_
                  refine ur_svIk [some (.inr (.inr (some 0))), some (.inl a1), some (.inl a2), some (.inl a3), some (.inl a4), some (.inl x28), some (.inl x32), some (.inl (-1))] rfl rfl ?_
                  refine ur_ldA rfl rfl ?_
                  refine ur_get rfl hc40 rfl ?_
                  refine ur_new rfl (Nat.le_of_ble_eq_true rfl) ?_
                  refine ur_dup rfl rfl ?_
                  refine ur_ldI rfl rfl ?_
                  refine ur_ldI rfl rfl ?_
                  refine ur_ldI rfl rfl ?_
                  refine ur_ldI rfl rfl ?_
                  refine ur_ldI rfl rfl ?_
                  refine ur_ldI rfl rfl ?_
                  refine ur_push rfl ?_
                  refine ur_inl rfl (rcv_of ap_0) (Nat.le_of_ble_eq_true rfl) (Nat.le_of_ble_eq_true rfl) (sd_newCometD hO0 _ _ _ _ _ _ _ (by show 0 ≤ x28.toInt ∧ x28.toInt ≤ 359; omega) (by show 5 ≤ x32.toInt ∧ x32.toInt ≤ 99; omega) (by show ((-1) : Int32).toInt = 1 ∨ ((-1) : Int32).toInt = -1; first | omega | decide) (fun w88 h91 hr89 hO91 hv91 k90 hn97 hx92 => ?_))
                  obtain ⟨ds94, hd95, hg96, hx92⟩ := hx92
                  have hc93 : h91[h0.length]? = some (.inl (2, [.inl a1, .inl a2, .inl x28, .inl x32, .inl (-1), .inl a4, .inl (-1), .inl (-2000000000), .inl 0, .inl 0, .inr (.inr (some (h0.length + 1))), .inr (.inr (some (h0.length + 2))), .inr (.inr none), .inr (.inr (some (h0.length + 3)))])) := by rw [hx92]; exact (ap_get (j := 0)).trans rfl
                  have hu91 : un [4, 221, 1104, 9002, 21208, 21209] h0 h91 := hv91.mono (by decide)
                  subst hr89
                  show uRun _ (uCall Mt _) _ 128 (_, [(.inr (.inr (some h0.length))), (.inr (.inr (some 1)))], _, _, _)
                  have fr98 : ∀ (c : Int) (z : Nat), 0 ≤ c → c < fO h91 1 4 → cz h91 c z → z ≠ h0.length ∧ qP h91 z ≠ qP h91 (h0.length) := fun c z _ _ w => cm_fr hO0 rfl (fun b hb => by rw [hx92]; exact List.getElem?_append_left hb) (fA_of (k := 10) hc93) c z (cz_c (arR_u4 hO0 hv91 (by decide)) w)
                  have t99 : fO h91 (h0.length) 0 = (a1 : Int32).toInt := fO_fA (fA_of (k := 0) hc93)
                  have t100 : fO h91 (h0.length) 1 = (a2 : Int32).toInt := fO_fA (fA_of (k := 1) hc93)
                  have t101 : fO h91 (h0.length) 2 = (x28 : Int32).toInt := fO_fA (fA_of (k := 2) hc93)
                  have t102 : fO h91 (h0.length) 3 = (x32 : Int32).toInt := fO_fA (fA_of (k := 3) hc93)
                  have t103 : fO h91 (h0.length) 4 = ((-1) : Int32).toInt := fO_fA (fA_of (k := 4) hc93)
                  have t104 : fO h91 (h0.length) 5 = (a4 : Int32).toInt := fO_fA (fA_of (k := 5) hc93)
                  have t105 : fO h91 (h0.length) 6 = ((-1) : Int32).toInt := fO_fA (fA_of (k := 6) hc93)
                  have t107 := fO_of (k := 4) (hv91.ko (n := 5) hc1 rfl (wid_f (by decide)) (by decide)) rfl
                  have t108 := fO_keep (a := 1) (ci := 6) (n := 5) (k := 4) hO0 hO91 hv91 (by decide) rfl (by decide) rfl (by decide)
                  have m106 : CMz h91 (fO h91 1 4) (h0.length) := by unfold CMz CMr; omega
                  have nw109 : NWx h91 h0.length := NWx.of hO0 hx92 (arR_u4 hO0 hv91 (by decide)) hg96 (by omega) (by omega) (by first | omega | decide) (by omega)
                  have t110 := fO_of (k := 2) (hv91.ko (n := 5) hc1 rfl (wid_f (by decide)) (by decide)) rfl
                  refine ur_inl rfl (rcv_of (hv91.ko (n := 5) hc1 rfl (wid_f (by decide)) (by decide))) (Nat.le_of_ble_eq_true rfl) (Nat.le_of_ble_eq_true rfl) (se_X6_addComet hO91 k90.1 k90.2 (pre0.un hO0 hO91 hv91 (by decide)) (by omega) fr98 m106 (pre1.uk hO0 hO91 hv91 (by decide)) nw109 (by rw [fO_keep (a := 8) (ci := 5) (n := 5) (k := 4) hO0 hO91 hu91 (by decide) rfl (by decide) rfl (by decide)]; exact pre2) (fun w111 h118 hr112 hO118 hv118 hp113 hp114 hp115 hp116 hp117 => ?_))
                  have hu118 : un [4, 221, 1104, 9002, 21208, 21209] h91 h118 := hv118.mono (by decide)
                  obtain ⟨x119, rfl, t120⟩ := hr112
                  show uRun _ (uCall Mt _) _ 131 (_, [(.inl x119)], _, _, _)
                  obtain ⟨f122, f123, hc121, k124⟩ := ok_1 hO118
                  have t125 := fO_of (k := 4) hc121 rfl
                  have t126 := hv118.nC (by decide)
                  exact ur_ret rfl rfl (hQ _ _ ⟨_, rfl, Or.inr (Or.inr ⟨⟨by omega, by omega, by omega, by omega, by omega, by omega⟩, by omega, by omega, by omega⟩)⟩ hO118 (hu91.tr hu118) (by omega) hp114 ((KCc.un hO0 hv91 (by decide) (by decide) (by decide)).tr hp115 (by omega)) (fun _ => ⟨h0.length, (by have q := hp116; rw [show fO h91 1 4 = fO h0 1 4 by omega] at q; exact q), (fO_fA ((fC_un hO91 hv118 k90.1 k90.2 (by decide) (by decide)).trans (fA_of (k := 0) hc93))), (fO_fA ((fC_un hO91 hv118 k90.1 k90.2 (by decide) (by decide)).trans (fA_of (k := 1) hc93))), (fO_fA ((fC_un hO91 hv118 k90.1 k90.2 (by decide) (by decide)).trans (fA_of (k := 2) hc93))).trans (by omega), (fO_fA ((fC_un hO91 hv118 k90.1 k90.2 (by decide) (by decide)).trans (fA_of (k := 3) hc93))).trans (by omega), (fO_fA ((fC_un hO91 hv118 k90.1 k90.2 (by decide) (by decide)).trans (fA_of (k := 4) hc93))).trans ((show ((-1) : Int32).toInt = -1 by decide).trans (if_pos (by omega)).symm), (fO_fA ((fC_un hO91 hv118 k90.1 k90.2 (by decide) (by decide)).trans (fA_of (k := 5) hc93))), (fO_fA ((fC_un hO91 hv118 k90.1 k90.2 (by decide) (by decide)).trans (fA_of (k := 6) hc93))).trans (by decide), (fO_fA ((fC_un hO91 hv118 k90.1 k90.2 (by decide) (by decide)).trans (fA_of (k := 7) hc93))).trans (by decide)⟩) hp117)
              · have t127 := lt_no c42
                refine ur_push rfl ?_
                exact ur_ret rfl rfl (hQ _ _ ⟨_, rfl, Or.inr (Or.inl ⟨⟨by omega, by omega, by omega, by omega, by omega, by omega⟩, by omega, by omega, by omega⟩)⟩ hO0 un.rf (by omega) pre0 KCc.rf (fun q => by exfalso; omega) pre1)
            · have t128 := le_no c38
              refine ur_push rfl ?_
              exact ur_ret rfl rfl (hQ _ _ ⟨_, rfl, Or.inl ⟨fun q => by omega, by omega, by omega⟩⟩ hO0 un.rf (by omega) pre0 KCc.rf (fun q => by exfalso; omega) pre1)
        · have t129 := wi_noL c22 l_0 l_9
          refine ur_push rfl ?_
          exact ur_ret rfl rfl (hQ _ _ ⟨_, rfl, Or.inl ⟨fun q => by omega, by omega, by omega⟩⟩ hO0 un.rf (by omega) pre0 KCc.rf (fun q => by exfalso; omega) pre1)
    · have t130 := wi_noL c13 l_200 l_40000
      refine ur_push rfl ?_
      exact ur_ret rfl rfl (hQ _ _ ⟨_, rfl, Or.inl ⟨fun q => by omega, by omega, by omega⟩⟩ hO0 un.rf (by omega) pre0 KCc.rf (fun q => by exfalso; omega) pre1)

set_option maxRecDepth 20000 in
set_option maxHeartbeats 4000000 in
theorem se_X6_breakComet {d kc ks : Nat} {h0 : aH} {Q : Option aV → aH → Prop} {ls : List (List (Int × Int) × List (Int × Int))} (hO0 : OK h0) (a1 : Int32) (a2 : Int32) (b2 : -60 ≤ a2.toInt ∧ a2.toInt ≤ 60) (pre0 : SKc h0) (pre1 : (0 ≤ a1.toInt ∧ a1.toInt < fO h0 1 4)) (pre2 : ∀ z, cz h0 a1.toInt z → fO h0 z 8 ≤ a2.toInt ∧ a2.toInt ≤ fO h0 z 9) (pre3 : fO h0 1 4 ≤ 10) (pre4 : SGc ls h0) (pre5 : 1 ≤ fO h0 8 4) (hQ : ∀ r h', (∃ x : Int32, r = some (.inl x) ∧ (x.toInt = (fO h0 1 4) ∧ fO h' 1 4 = (fO h0 1 4) + 2)) → OK h' → un [4, 221, 1104, 9002, 21207, 21208, 21209] h0 h' → (nC h' ≤ nC h0 + 2) → (SKc h') → (KCc 7 h0 h') → (∃ z, cz h0 a1.toInt z ∧ fO h' z 7 = a2.toInt ∧ (∀ (c : Int) (y : Nat), 0 ≤ c → c < (fO h0 1 4) → c ≠ a1.toInt → cz h0 c y → fO h' y 7 = fO h0 y 7) ∧ (∃ y, NCz h' (fO h0 1 4) y (cf h0 z a2.toInt) (fO h0 z 1 + 30) ((fO h0 z 2 + 1) % 360) (fO h0 z 3) (fO h0 z 4) (if fO h0 z 5 = 0 then 0 else fO h0 z 5 - 1) a1.toInt) ∧ ∃ y, NCz h' ((fO h0 1 4) + 1) y (cf h0 z a2.toInt) (fO h0 z 1 - 30) ((fO h0 z 2 + 359) % 360) (fO h0 z 3) (fO h0 z 4) (if fO h0 z 5 = 0 then 0 else fO h0 z 5 - 1) a1.toInt) → (SGc ls h') → Q r h') : uCall Mt (d + 6) 64 [(.inr (.inr (some 1))), (.inl a1), (.inl a2)] h0 kc ks Q := by
  have l_0 : ((0) : Int32).toInt = 0 := by decide
  have l_1 : ((1) : Int32).toInt = 1 := by decide
  have l_30 : ((30) : Int32).toInt = 30 := by decide
  have l_360 : ((360) : Int32).toInt = 360 := by decide
  refine uc_ink [some (.inr (.inr (some 1))), some (.inl a1), some (.inl a2), none, none, none, none, none, none] mt_64 (Nat.le_of_ble_eq_true rfl) rfl ?_
  obtain ⟨f2, f3, hc1, k4⟩ := ok_1 hO0
  have t5 := fO_of (k := 4) hc1 rfl
  refine ur_ldA rfl rfl ?_
  refine ur_ldI rfl rfl ?_
  refine ur_inl rfl (rcv_of hc1) (Nat.le_of_ble_eq_true rfl) (Nat.le_of_ble_eq_true rfl) (sd_X6_cometAt hO0 _ pre0 (fun w6 hr7 => ?_))
  obtain ⟨o8, rfl, k9, t10, t11⟩ := hr7
  show uRun _ (uCall Mt _) _ 5 (_, [(.inr (.inr o8))], _, _, _)
  refine ur_svAk [some (.inr (.inr (some 1))), some (.inl a1), some (.inl a2), some (.inr (.inr o8)), none, none, none, none, none] rfl rfl ?_
  refine ur_ldA rfl rfl ?_
  cases o8 with
  | none =>
    refine ur_nulN rfl ?_
    have t13 := t10 rfl
    exfalso
    omega
  | some r12 =>
    refine ur_nulS rfl ?_
    have k14 := k9 _ rfl
    have t15 := t11 _ rfl
    obtain ⟨y19, w20, p17, p18⟩ := pre0.2.1 a1.toInt (by omega) (by omega)
    have e21 := cz_u t15.2 w20
    subst e21
    unfold CMz CMr at p17
    have p18 := p18 (by omega)
    obtain ⟨g42, f23, f24, f25, f26, f27, f28, f29, f30, f31, f32, q33, q34, o35, q36, hc22, k37, k38, k39, k40, k41⟩ := hO0.comet k14.2
    have t43 := fO_of (k := 0) hc22 rfl
    have t44 := fO_of (k := 1) hc22 rfl
    have t45 := fO_of (k := 2) hc22 rfl
    have t46 := fO_of (k := 3) hc22 rfl
    have t47 := fO_of (k := 4) hc22 rfl
    have t48 := fO_of (k := 5) hc22 rfl
    have t49 := fO_of (k := 6) hc22 rfl
    have t50 := fO_of (k := 7) hc22 rfl
    have t51 := fO_of (k := 8) hc22 rfl
    have t52 := fO_of (k := 9) hc22 rfl
    have t16 := p18.2 a2.toInt (by have q := pre2 _ w20; omega) (by have q := pre2 _ w20; omega)
    have t53 := pre2 _ w20
    have cd54 := (pre4.1 a1.toInt r12 (by omega) (by omega) w20).1
    have tt55 := cd54.2.2.1
    refine ur_ldA rfl rfl ?_
    refine ur_ldI rfl rfl ?_
    refine ur_putV (W := [21207]) (fs' := [(.inl f23), (.inl f24), (.inl f25), (.inl f26), (.inl f27), (.inl f28), (.inl f29), (.inl a2), (.inl f31), (.inl f32), (.inr (.inr (some q33))), (.inr (.inr (some q34))), (.inr (.inr o35)), (.inr (.inr (some q36)))]) rfl hO0 hc22 (Nat.le_of_ble_eq_true rfl) rfl rfl ⟨g42, _, _, _, _, _, _, _, _, _, _, _, _, _, _, rfl, ⟨k37.1, k37.2⟩, ⟨k38.1, k38.2⟩, k39, ⟨k40.1, k40.2⟩, by omega⟩ rfl (Or.inr (by show 1000 + 100 * wid r12 (102, 14) + 7 ∈ _; rw [(wid_c g42)]; decide)) (fun h57 hO57 hv57 d56 hc58 => ?_)
    have hu57 : un [4, 221, 1104, 9002, 21207, 21208, 21209] h0 h57 := hv57.mono (by decide)
    have sg59 := SGc.w7 pre4 hO0 (cz_ok hO0 w20) d56 (fun j hj => fA_7 hc22 hc58 hj)
    refine ur_ldA rfl rfl ?_
    refine ur_get rfl hc58 rfl ?_
    refine ur_push rfl ?_
    refine ur_binV rfl (fun x60 e61 => ?_)
    have z62 := any_r f28
    have t63 := ti_sub e61 (by omega) (by omega)
    refine ur_push rfl ?_
    refine ur_maxV rfl (by show ¬ 9 ≤ 2; decide) (fun x64 t65 e66 => ?_)
    refine ur_svIk [some (.inr (.inr (some 1))), some (.inl a1), some (.inl a2), some (.inr (.inr (some r12))), some (.inl x64), none, none, none, none] rfl rfl ?_
    refine ur_ldA rfl rfl ?_
    refine ur_ldI rfl rfl ?_
    have t67 := fO_keep (a := 1) (ci := 6) (n := 5) (k := 4) hO0 hO57 hv57 (by decide) rfl (by decide) rfl (by decide)
    refine ur_inl rfl (rcv_of hc58) (Nat.le_of_ble_eq_true rfl) (Nat.le_of_ble_eq_true rfl) (sd_X2_passOf hO57 g42 (hu57.tm k14.2 (by decide)) _ (by show -60 ≤ a2.toInt ∧ a2.toInt ≤ 60; omega) (fun w68 hr69 => ?_))
    obtain ⟨x70, rfl, f71⟩ := hr69
    show uRun _ (uCall Mt _) _ 34 (_, [(.inl x70)], _, _, _)
    have t72 : x70.toInt = cf h0 r12 a2.toInt := by rw [f71, show qP h57 r12 = qP h0 r12 from (qP_e (fC_un hO0 hu57 g42 (cz_ok hO0 w20).2 (by decide) (by decide))), gI_e (show arI h57 (qP h0 r12) = arI h0 (qP h0 r12) by obtain ⟨q, -, e, gq, tq, -, -⟩ := (cm_q hO0 (cz_ok hO0 w20).2); rw [e]; exact arI_p hO0 hv57 gq tq (by decide))]; unfold cf; rw [if_pos (by omega)]
    rw [← t72] at t16
    refine ur_svIk [some (.inr (.inr (some 1))), some (.inl a1), some (.inl a2), some (.inr (.inr (some r12))), some (.inl x64), some (.inl x70), none, none, none] rfl rfl ?_
    have t73 := fO_of (k := 1) hc58 rfl
    have t74 := fO_of (k := 2) hc58 rfl
    have t75 := fO_of (k := 3) hc58 rfl
    have t76 := fO_of (k := 4) hc58 rfl
    have t77 := fO_of (k := 5) hc58 rfl
    refine ur_ldA rfl rfl ?_
    refine ur_get rfl hc58 rfl ?_
    refine ur_push rfl ?_
    refine ur_binV rfl (fun x78 e79 => ?_)
    have z80 := any_r f25
    have t81 := ti_add e79 (by omega) (by omega)
    refine ur_push rfl ?_
    refine ur_divV rfl (by decide) (fun x82 e83 => ?_)
    have z84 := any_r x78
    have t85 := ti_rem e83 l_360 (by decide) (by omega)
    refine ur_svIk [some (.inr (.inr (some 1))), some (.inl a1), some (.inl a2), some (.inr (.inr (some r12))), some (.inl x64), some (.inl x70), some (.inl x82), none, none] rfl rfl ?_
    refine ur_ldA rfl rfl ?_
    refine ur_get rfl hc58 rfl ?_
    refine ur_push rfl ?_
    refine ur_binV rfl (fun x86 e87 => ?_)
    have t88 := ti_add e87 (by omega) (by omega)
    refine ur_push rfl ?_
    refine ur_binV rfl (fun x89 e90 => ?_)
    have z91 := any_r x86
    have t92 := ti_sub e90 (by omega) (by omega)
    refine ur_push rfl ?_
    refine ur_divV rfl (by decide) (fun x93 e94 => ?_)
    have z95 := any_r x89
    have t96 := ti_rem e94 l_360 (by decide) (by omega)
    refine ur_svIk [some (.inr (.inr (some 1))), some (.inl a1), some (.inl a2), some (.inr (.inr (some r12))), some (.inl x64), some (.inl x70), some (.inl x82), some (.inl x93), none] rfl rfl ?_
    refine ur_ldA rfl rfl ?_
    refine ur_new rfl (Nat.le_of_ble_eq_true rfl) ?_
    refine ur_dup rfl rfl ?_
    refine ur_ldI rfl rfl ?_
    refine ur_ldA rfl rfl ?_
    refine ur_get rfl (hs_ap hc58) rfl ?_
    refine ur_push rfl ?_
    refine ur_binV rfl (fun x98 e99 => ?_)
    have z100 := any_r f24
    have t101 := ti_add e99 (by omega) (by omega)
    refine ur_ldI rfl rfl ?_
    refine ur_ldA rfl rfl ?_
    refine ur_get rfl (hs_ap hc58) rfl ?_
    refine ur_ldA rfl rfl ?_
    refine ur_get rfl (hs_ap hc58) rfl ?_
    refine ur_ldI rfl rfl ?_
    refine ur_ldI rfl rfl ?_
    refine ur_inl rfl (rcv_of ap_0) (Nat.le_of_ble_eq_true rfl) (Nat.le_of_ble_eq_true rfl) (sd_newCometD hO57 _ _ _ _ _ _ _ (by show 0 ≤ x82.toInt ∧ x82.toInt ≤ 359; omega) (by show 5 ≤ f26.toInt ∧ f26.toInt ≤ 99; omega) (by show f27.toInt = 1 ∨ f27.toInt = -1; first | omega | decide) (fun w102 h105 hr103 hO105 hv105 k104 hn111 hx106 => ?_))
    obtain ⟨ds108, hd109, hg110, hx106⟩ := hx106
    have hc107 : h105[h57.length]? = some (.inl (2, [.inl x70, .inl x98, .inl x82, .inl f26, .inl f27, .inl x64, .inl a1, .inl (-2000000000), .inl 0, .inl 0, .inr (.inr (some (h57.length + 1))), .inr (.inr (some (h57.length + 2))), .inr (.inr none), .inr (.inr (some (h57.length + 3)))])) := by rw [hx106]; exact (ap_get (j := 0)).trans rfl
    have hu105 : un [4, 221, 1104, 9002, 21207, 21208, 21209] h57 h105 := hv105.mono (by decide)
    subst hr103
    show uRun _ (uCall Mt _) _ 94 (_, [(.inr (.inr (some h57.length))), (.inr (.inr (some 1)))], _, _, _)
    have fr112 : ∀ (c : Int) (z : Nat), 0 ≤ c → c < fO h105 1 4 → cz h105 c z → z ≠ h57.length ∧ qP h105 z ≠ qP h105 (h57.length) := fun c z _ _ w => cm_fr hO57 rfl (fun b hb => by rw [hx106]; exact List.getElem?_append_left hb) (fA_of (k := 10) hc107) c z (cz_c (arR_u4 hO57 hv105 (by decide)) w)
    have t113 : fO h105 (h57.length) 0 = (x70 : Int32).toInt := fO_fA (fA_of (k := 0) hc107)
    have t114 : fO h105 (h57.length) 1 = (x98 : Int32).toInt := fO_fA (fA_of (k := 1) hc107)
    have t115 : fO h105 (h57.length) 2 = (x82 : Int32).toInt := fO_fA (fA_of (k := 2) hc107)
    have t116 : fO h105 (h57.length) 3 = (f26 : Int32).toInt := fO_fA (fA_of (k := 3) hc107)
    have t117 : fO h105 (h57.length) 4 = (f27 : Int32).toInt := fO_fA (fA_of (k := 4) hc107)
    have t118 : fO h105 (h57.length) 5 = (x64 : Int32).toInt := fO_fA (fA_of (k := 5) hc107)
    have t119 : fO h105 (h57.length) 6 = (a1 : Int32).toInt := fO_fA (fA_of (k := 6) hc107)
    have t121 := fO_of (k := 4) (hv105.ko (n := 5) ((d56 _ (ne_tg (hO105.fix 1 (by decide) rfl) (hu105.tm (hu57.tm k14.2 (by decide)) (by decide)) (by decide))).trans hc1) rfl (wid_f (by decide)) (by decide)) rfl
    have t122 := fO_keep (a := 1) (ci := 6) (n := 5) (k := 4) hO57 hO105 hv105 (by decide) rfl (by decide) rfl (by decide)
    have m120 : CMz h105 (fO h105 1 4) (h57.length) := by unfold CMz CMr; omega
    have nw123 : NWx h105 h57.length := NWx.of hO57 hx106 (arR_u4 hO57 hv105 (by decide)) hg110 (by omega) (by omega) (by first | omega | decide) (by omega)
    have t124 := fO_of (k := 2) (hv105.ko (n := 5) ((d56 _ (ne_tg (hO105.fix 1 (by decide) rfl) (hu105.tm (hu57.tm k14.2 (by decide)) (by decide)) (by decide))).trans hc1) rfl (wid_f (by decide)) (by decide)) rfl
    refine ur_inl rfl (rcv_of (hv105.ko (n := 5) ((d56 _ (ne_tg (hO105.fix 1 (by decide) rfl) (hu105.tm (hu57.tm k14.2 (by decide)) (by decide)) (by decide))).trans hc1) rfl (wid_f (by decide)) (by decide))) (Nat.le_of_ble_eq_true rfl) (Nat.le_of_ble_eq_true rfl) (se_X6_addComet hO105 k104.1 k104.2 ((pre0.un hO0 hO57 hv57 (by decide)).un hO57 hO105 hv105 (by decide)) (by omega) fr112 m120 (sg59.uk hO57 hO105 hv105 (by decide)) nw123 (by rw [fO_keep (a := 8) (ci := 5) (n := 5) (k := 4) hO0 hO105 (hu57.tr hu105) (by decide) rfl (by decide) rfl (by decide)]; exact pre5) (fun w125 h132 hr126 hO132 hv132 hp127 hp128 hp129 hp130 hp131 => ?_))
    have hu132 : un [4, 221, 1104, 9002, 21207, 21208, 21209] h105 h132 := hv132.mono (by decide)
    obtain ⟨x133, rfl, t134⟩ := hr126
    show uRun _ (uCall Mt _) _ 97 (_, [(.inl x133)], _, _, _)
    obtain ⟨f136, f137, hc135, k138⟩ := ok_1 hO132
    have t139 := fO_of (k := 4) hc135 rfl
    refine ur_svIk [some (.inr (.inr (some 1))), some (.inl a1), some (.inl a2), some (.inr (.inr (some r12))), some (.inl x64), some (.inl x70), some (.inl x82), some (.inl x93), some (.inl x133)] rfl rfl ?_
    obtain ⟨g160, f141, f142, f143, f144, f145, f146, f147, f148, f149, f150, q151, q152, o153, q154, hc140, k155, k156, k157, k158, k159⟩ := hO132.comet (hu132.tm (hu105.tm (hu57.tm k14.2 (by decide)) (by decide)) (by decide))
    have t161 := fO_of (k := 1) (hv105.ko (n := 14) hc58 rfl (wid_c g160) (by decide)) rfl
    have t162 := fO_of (k := 1) hc140 rfl
    have t163 : fO h132 r12 1 = fO h105 r12 1 := fO_eA (fC_un hO105 hv132 g160 (hu105.tm (hu57.tm k14.2 (by decide)) (by decide)) (by decide) (by decide))
    have t164 := fO_of (k := 2) (hv105.ko (n := 14) hc58 rfl (wid_c g160) (by decide)) rfl
    have t165 := fO_of (k := 2) hc140 rfl
    have t166 : fO h132 r12 2 = fO h105 r12 2 := fO_eA (fC_un hO105 hv132 g160 (hu105.tm (hu57.tm k14.2 (by decide)) (by decide)) (by decide) (by decide))
    have t167 := fO_of (k := 3) (hv105.ko (n := 14) hc58 rfl (wid_c g160) (by decide)) rfl
    have t168 := fO_of (k := 3) hc140 rfl
    have t169 : fO h132 r12 3 = fO h105 r12 3 := fO_eA (fC_un hO105 hv132 g160 (hu105.tm (hu57.tm k14.2 (by decide)) (by decide)) (by decide) (by decide))
    have t170 := fO_of (k := 4) (hv105.ko (n := 14) hc58 rfl (wid_c g160) (by decide)) rfl
    have t171 := fO_of (k := 4) hc140 rfl
    have t172 : fO h132 r12 4 = fO h105 r12 4 := fO_eA (fC_un hO105 hv132 g160 (hu105.tm (hu57.tm k14.2 (by decide)) (by decide)) (by decide) (by decide))
    refine ur_ldA rfl rfl ?_
    refine ur_new rfl (Nat.le_of_ble_eq_true rfl) ?_
    refine ur_dup rfl rfl ?_
    refine ur_ldI rfl rfl ?_
    refine ur_ldA rfl rfl ?_
    refine ur_get rfl (hs_ap hc140) rfl ?_
    refine ur_push rfl ?_
    refine ur_binV rfl (fun x174 e175 => ?_)
    have z176 := any_r f142
    have t177 := ti_sub e175 (by omega) (by omega)
    refine ur_ldI rfl rfl ?_
    refine ur_ldA rfl rfl ?_
    refine ur_get rfl (hs_ap hc140) rfl ?_
    refine ur_ldA rfl rfl ?_
    refine ur_get rfl (hs_ap hc140) rfl ?_
    refine ur_ldI rfl rfl ?_
    refine ur_ldI rfl rfl ?_
    refine ur_inl rfl (rcv_of ap_0) (Nat.le_of_ble_eq_true rfl) (Nat.le_of_ble_eq_true rfl) (sd_newCometD hO132 _ _ _ _ _ _ _ (by show 0 ≤ x93.toInt ∧ x93.toInt ≤ 359; omega) (by show 5 ≤ f144.toInt ∧ f144.toInt ≤ 99; omega) (by show f145.toInt = 1 ∨ f145.toInt = -1; first | omega | decide) (fun w178 h181 hr179 hO181 hv181 k180 hn187 hx182 => ?_))
    obtain ⟨ds184, hd185, hg186, hx182⟩ := hx182
    have hc183 : h181[h132.length]? = some (.inl (2, [.inl x70, .inl x174, .inl x93, .inl f144, .inl f145, .inl x64, .inl a1, .inl (-2000000000), .inl 0, .inl 0, .inr (.inr (some (h132.length + 1))), .inr (.inr (some (h132.length + 2))), .inr (.inr none), .inr (.inr (some (h132.length + 3)))])) := by rw [hx182]; exact (ap_get (j := 0)).trans rfl
    have hu181 : un [4, 221, 1104, 9002, 21207, 21208, 21209] h132 h181 := hv181.mono (by decide)
    subst hr179
    show uRun _ (uCall Mt _) _ 129 (_, [(.inr (.inr (some h132.length))), (.inr (.inr (some 1)))], _, _, _)
    have fr188 : ∀ (c : Int) (z : Nat), 0 ≤ c → c < fO h181 1 4 → cz h181 c z → z ≠ h132.length ∧ qP h181 z ≠ qP h181 (h132.length) := fun c z _ _ w => cm_fr hO132 rfl (fun b hb => by rw [hx182]; exact List.getElem?_append_left hb) (fA_of (k := 10) hc183) c z (cz_c (arR_u4 hO132 hv181 (by decide)) w)
    have t189 : fO h181 (h132.length) 0 = (x70 : Int32).toInt := fO_fA (fA_of (k := 0) hc183)
    have t190 : fO h181 (h132.length) 1 = (x174 : Int32).toInt := fO_fA (fA_of (k := 1) hc183)
    have t191 : fO h181 (h132.length) 2 = (x93 : Int32).toInt := fO_fA (fA_of (k := 2) hc183)
    have t192 : fO h181 (h132.length) 3 = (f144 : Int32).toInt := fO_fA (fA_of (k := 3) hc183)
    have t193 : fO h181 (h132.length) 4 = (f145 : Int32).toInt := fO_fA (fA_of (k := 4) hc183)
    have t194 : fO h181 (h132.length) 5 = (x64 : Int32).toInt := fO_fA (fA_of (k := 5) hc183)
    have t195 : fO h181 (h132.length) 6 = (a1 : Int32).toInt := fO_fA (fA_of (k := 6) hc183)
    have t197 := fO_of (k := 4) (hv181.ko (n := 5) hc135 rfl (wid_f (by decide)) (by decide)) rfl
    have t198 := fO_keep (a := 1) (ci := 6) (n := 5) (k := 4) hO132 hO181 hv181 (by decide) rfl (by decide) rfl (by decide)
    have m196 : CMz h181 (fO h181 1 4) (h132.length) := by unfold CMz CMr; omega
    have nw199 : NWx h181 h132.length := NWx.of hO132 hx182 (arR_u4 hO132 hv181 (by decide)) hg186 (by omega) (by omega) (by first | omega | decide) (by omega)
    have t200 := fO_of (k := 2) (hv181.ko (n := 5) hc135 rfl (wid_f (by decide)) (by decide)) rfl
    refine ur_inl rfl (rcv_of (hv181.ko (n := 5) hc135 rfl (wid_f (by decide)) (by decide))) (Nat.le_of_ble_eq_true rfl) (Nat.le_of_ble_eq_true rfl) (se_X6_addComet hO181 k180.1 k180.2 (hp128.un hO132 hO181 hv181 (by decide)) (by omega) fr188 m196 (hp131.uk hO132 hO181 hv181 (by decide)) nw199 (by rw [fO_keep (a := 8) (ci := 5) (n := 5) (k := 4) hO0 hO181 (hu57.tr (hu105.tr (hu132.tr hu181))) (by decide) rfl (by decide) rfl (by decide)]; exact pre5) (fun w201 h208 hr202 hO208 hv208 hp203 hp204 hp205 hp206 hp207 => ?_))
    have hu208 : un [4, 221, 1104, 9002, 21207, 21208, 21209] h181 h208 := hv208.mono (by decide)
    obtain ⟨x209, rfl, t210⟩ := hr202
    show uRun _ (uCall Mt _) _ 132 (_, [(.inl x209)], _, _, _)
    obtain ⟨f212, f213, hc211, k214⟩ := ok_1 hO208
    have t215 := fO_of (k := 4) hc211 rfl
    refine ur_pop rfl rfl ?_
    refine ur_ldI rfl rfl ?_
    have t216 := hv57.nC (by decide)
    have t217 := hv132.nC (by decide)
    have t218 := hv208.nC (by decide)
    exact ur_ret rfl rfl (hQ _ _ ⟨_, rfl, by omega⟩ hO208 (hu57.tr (hu105.tr (hu132.tr (hu181.tr hu208)))) (by omega) hp204 (((((KCc.un hO0 hv57 (by decide) (by decide) (by decide)).tr (KCc.un hO57 hv105 (by decide) (by decide) (by decide)) (by omega)).tr (hp129.le (by decide)) (by omega)).tr (KCc.un hO132 hv181 (by decide) (by decide) (by decide)) (by omega)).tr (hp205.le (by decide)) (by omega)) ⟨r12, w20, (fO_fA (((fC_un hO181 hv208 g160 (hu181.tm (hu132.tm (hu105.tm (hu57.tm k14.2 (by decide)) (by decide)) (by decide)) (by decide)) (by decide) (by decide)).trans ((fC_un hO132 hv181 g160 (hu132.tm (hu105.tm (hu57.tm k14.2 (by decide)) (by decide)) (by decide)) (by decide) (by decide)).trans ((fC_un hO105 hv132 g160 (hu105.tm (hu57.tm k14.2 (by decide)) (by decide)) (by decide) (by decide)).trans (fC_un hO57 hv105 g160 (hu57.tm k14.2 (by decide)) (by decide) (by decide))))).trans (fA_of (k := 7) hc58))), (fun c y c0 c1 ci w => by have t0 := cz_ok hO0 w; have ne : y ≠ r12 := (pre0.2.2 c a1.toInt y r12 c0 c1 (by omega) (by omega) ci w w20).1; have t1 : tg h57 y = (102, 14) := (hu57.tm t0.2 (by decide)); have e1 := (fA_c (d56 y ne) 7); have e2 := (fC_un (k := 7) hO57 hv105 t0.1 t1 (by decide) (by decide)).trans e1; have t2 : tg h105 y = (102, 14) := (hu105.tm t1 (by decide)); have e3 := (fC_un (k := 7) hO105 hv132 t0.1 t2 (by decide) (by decide)).trans e2; have t3 : tg h132 y = (102, 14) := (hu132.tm t2 (by decide)); have e4 := (fC_un (k := 7) hO132 hv181 t0.1 t3 (by decide) (by decide)).trans e3; have t4 : tg h181 y = (102, 14) := (hu181.tm t3 (by decide)); have e5 := (fC_un (k := 7) hO181 hv208 t0.1 t4 (by decide) (by decide)).trans e4; have t5 : tg h208 y = (102, 14) := (hu208.tm t4 (by decide)); exact fO_eA e5), ⟨h57.length, ((((KCc.un hO132 hv181 (by decide) (by decide) (by decide)).tr hp205 (by omega))) _ _ (by omega) (by omega) (by have q := hp130; rw [show fO h105 1 4 = fO h0 1 4 by omega] at q; exact q)).1, (fO_fA (((fC_un hO181 hv208 k104.1 (hu181.tm (hu132.tm k104.2 (by decide)) (by decide)) (by decide) (by decide)).trans ((fC_un hO132 hv181 k104.1 (hu132.tm k104.2 (by decide)) (by decide) (by decide)).trans (fC_un hO105 hv132 k104.1 k104.2 (by decide) (by decide)))).trans (fA_of (k := 0) hc107))).trans t72, (fO_fA (((fC_un hO181 hv208 k104.1 (hu181.tm (hu132.tm k104.2 (by decide)) (by decide)) (by decide) (by decide)).trans ((fC_un hO132 hv181 k104.1 (hu132.tm k104.2 (by decide)) (by decide) (by decide)).trans (fC_un hO105 hv132 k104.1 k104.2 (by decide) (by decide)))).trans (fA_of (k := 1) hc107))).trans (by omega), (fO_fA (((fC_un hO181 hv208 k104.1 (hu181.tm (hu132.tm k104.2 (by decide)) (by decide)) (by decide) (by decide)).trans ((fC_un hO132 hv181 k104.1 (hu132.tm k104.2 (by decide)) (by decide) (by decide)).trans (fC_un hO105 hv132 k104.1 k104.2 (by decide) (by decide)))).trans (fA_of (k := 2) hc107))).trans (by omega), (fO_fA (((fC_un hO181 hv208 k104.1 (hu181.tm (hu132.tm k104.2 (by decide)) (by decide)) (by decide) (by decide)).trans ((fC_un hO132 hv181 k104.1 (hu132.tm k104.2 (by decide)) (by decide) (by decide)).trans (fC_un hO105 hv132 k104.1 k104.2 (by decide) (by decide)))).trans (fA_of (k := 3) hc107))).trans (by omega), (fO_fA (((fC_un hO181 hv208 k104.1 (hu181.tm (hu132.tm k104.2 (by decide)) (by decide)) (by decide) (by decide)).trans ((fC_un hO132 hv181 k104.1 (hu132.tm k104.2 (by decide)) (by decide) (by decide)).trans (fC_un hO105 hv132 k104.1 k104.2 (by decide) (by decide)))).trans (fA_of (k := 4) hc107))).trans (by omega), (fO_fA (((fC_un hO181 hv208 k104.1 (hu181.tm (hu132.tm k104.2 (by decide)) (by decide)) (by decide) (by decide)).trans ((fC_un hO132 hv181 k104.1 (hu132.tm k104.2 (by decide)) (by decide) (by decide)).trans (fC_un hO105 hv132 k104.1 k104.2 (by decide) (by decide)))).trans (fA_of (k := 5) hc107))).trans (by split <;> omega), (fO_fA (((fC_un hO181 hv208 k104.1 (hu181.tm (hu132.tm k104.2 (by decide)) (by decide)) (by decide) (by decide)).trans ((fC_un hO132 hv181 k104.1 (hu132.tm k104.2 (by decide)) (by decide) (by decide)).trans (fC_un hO105 hv132 k104.1 k104.2 (by decide) (by decide)))).trans (fA_of (k := 6) hc107))), (fO_fA (((fC_un hO181 hv208 k104.1 (hu181.tm (hu132.tm k104.2 (by decide)) (by decide)) (by decide) (by decide)).trans ((fC_un hO132 hv181 k104.1 (hu132.tm k104.2 (by decide)) (by decide) (by decide)).trans (fC_un hO105 hv132 k104.1 k104.2 (by decide) (by decide)))).trans (fA_of (k := 7) hc107))).trans (by decide)⟩, ⟨h132.length, (by have q := hp206; rw [show fO h181 1 4 = fO h0 1 4 + 1 by omega] at q; exact q), (fO_fA ((fC_un hO181 hv208 k180.1 k180.2 (by decide) (by decide)).trans (fA_of (k := 0) hc183))).trans t72, (fO_fA ((fC_un hO181 hv208 k180.1 k180.2 (by decide) (by decide)).trans (fA_of (k := 1) hc183))).trans (by omega), (fO_fA ((fC_un hO181 hv208 k180.1 k180.2 (by decide) (by decide)).trans (fA_of (k := 2) hc183))).trans (by omega), (fO_fA ((fC_un hO181 hv208 k180.1 k180.2 (by decide) (by decide)).trans (fA_of (k := 3) hc183))).trans (by omega), (fO_fA ((fC_un hO181 hv208 k180.1 k180.2 (by decide) (by decide)).trans (fA_of (k := 4) hc183))).trans (by omega), (fO_fA ((fC_un hO181 hv208 k180.1 k180.2 (by decide) (by decide)).trans (fA_of (k := 5) hc183))).trans (by split <;> omega), (fO_fA ((fC_un hO181 hv208 k180.1 k180.2 (by decide) (by decide)).trans (fA_of (k := 6) hc183))), (fO_fA ((fC_un hO181 hv208 k180.1 k180.2 (by decide) (by decide)).trans (fA_of (k := 7) hc183))).trans (by decide)⟩⟩ hp207)

set_option maxRecDepth 20000 in
set_option maxHeartbeats 4000000 in
theorem se_X11_broke {d kc ks : Nat} {h0 : aH} {Q : Option aV → aH → Prop} {ls : List (List (Int × Int) × List (Int × Int))} (hO0 : OK h0) (a1 : Int32) (a2 : Int32) (pre0 : SKc h0) (pre1 : SGc ls h0) (pre2 : 1 ≤ fO h0 8 4) (hQ : ∀ r h', (∃ x : Int32, r = some (.inl x) ∧ ((¬ ((0 ≤ a1.toInt ∧ a1.toInt < fO h0 1 4) ∧ -60 ≤ a2.toInt ∧ a2.toInt ≤ 60) → x.toInt = -1 ∧ fO h' 1 4 = (fO h0 1 4)) ∧ (((0 ≤ a1.toInt ∧ a1.toInt < fO h0 1 4) ∧ -60 ≤ a2.toInt ∧ a2.toInt ≤ 60) → ∃ z, cz h0 a1.toInt z ∧ (¬ (fO h0 z 8 ≤ a2.toInt ∧ a2.toInt ≤ fO h0 z 9) → x.toInt = -2 ∧ fO h' 1 4 = (fO h0 1 4)) ∧ ((fO h0 z 8 ≤ a2.toInt ∧ a2.toInt ≤ fO h0 z 9) → (fO h0 z 7 ≠ -2000000000 → x.toInt = -5 ∧ fO h' 1 4 = (fO h0 1 4)) ∧ (fO h0 z 7 = -2000000000 → (12 < (fO h0 1 4) + 2 → x.toInt = -3 ∧ fO h' 1 4 = (fO h0 1 4)) ∧ ((fO h0 1 4) + 2 ≤ 12 → x.toInt = (fO h0 1 4) ∧ fO h' 1 4 = (fO h0 1 4) + 2)))))) → OK h' → un [4, 221, 1104, 9002, 21207, 21208, 21209] h0 h' → (nC h' ≤ nC h0 + 2) → (SKc h') → (KCc 7 h0 h') → (imG (fO h' 1 4 = (fO h0 1 4) + 2) (∃ z, cz h0 a1.toInt z ∧ fO h' z 7 = a2.toInt ∧ (∀ (c : Int) (y : Nat), 0 ≤ c → c < (fO h0 1 4) → c ≠ a1.toInt → cz h0 c y → fO h' y 7 = fO h0 y 7) ∧ (∃ y, NCz h' (fO h0 1 4) y (cf h0 z a2.toInt) (fO h0 z 1 + 30) ((fO h0 z 2 + 1) % 360) (fO h0 z 3) (fO h0 z 4) (if fO h0 z 5 = 0 then 0 else fO h0 z 5 - 1) a1.toInt) ∧ ∃ y, NCz h' ((fO h0 1 4) + 1) y (cf h0 z a2.toInt) (fO h0 z 1 - 30) ((fO h0 z 2 + 359) % 360) (fO h0 z 3) (fO h0 z 4) (if fO h0 z 5 = 0 then 0 else fO h0 z 5 - 1) a1.toInt)) → (imG (fO h' 1 4 = fO h0 1 4) (h' = h0)) → (SGc ls h') → Q r h') : uCall Mt (d + 7) 154 [(.inr (.inr (some 0))), (.inl a1), (.inl a2)] h0 kc ks Q := by
  have l_m2000000000 : ((-2000000000) : Int32).toInt = -2000000000 := by decide
  have l_m60 : ((-60) : Int32).toInt = -60 := by decide
  have l_m5 : ((-5) : Int32).toInt = -5 := by decide
  have l_m3 : ((-3) : Int32).toInt = -3 := by decide
  have l_m2 : ((-2) : Int32).toInt = -2 := by decide
  have l_m1 : ((-1) : Int32).toInt = -1 := by decide
  have l_2 : ((2) : Int32).toInt = 2 := by decide
  have l_12 : ((12) : Int32).toInt = 12 := by decide
  have l_60 : ((60) : Int32).toInt = 60 := by decide
  refine uc_ink [some (.inr (.inr (some 0))), some (.inl a1), some (.inl a2), none] mt_154 (Nat.le_of_ble_eq_true rfl) rfl ?_
  obtain ⟨f2, f3, hc1, k4⟩ := ok_1 hO0
  have t5 := fO_of (k := 4) hc1 rfl
  refine ur_ldA rfl rfl ?_
  obtain ⟨hc6, k7⟩ := ok_0 hO0
  refine ur_get rfl hc6 rfl ?_
  refine ur_ldI rfl rfl ?_
  refine ur_inl rfl (rcv_of hc1) (Nat.le_of_ble_eq_true rfl) (Nat.le_of_ble_eq_true rfl) (sd_X6_cometAt hO0 _ pre0 (fun w8 hr9 => ?_))
  obtain ⟨o10, rfl, k11, t12, t13⟩ := hr9
  show uRun _ (uCall Mt _) _ 8 (_, [(.inr (.inr o10))], _, _, _)
  refine ur_svAk [some (.inr (.inr (some 0))), some (.inl a1), some (.inl a2), some (.inr (.inr o10))] rfl rfl ?_
  refine ur_ldA rfl rfl ?_
  cases o10 with
  | none =>
    refine ur_nulN rfl ?_
    have t15 := t12 rfl
    refine ur_push rfl ?_
    exact ur_ret rfl rfl (hQ _ _ ⟨_, rfl, ⟨fun _ => ⟨by omega, by omega⟩, fun q => by exfalso; omega⟩⟩ hO0 un.rf (by omega) pre0 KCc.rf (fun q => by exfalso; omega) (fun _ => rfl) pre1)
  | some r14 =>
    refine ur_nulS rfl ?_
    have k16 := k11 _ rfl
    have t17 := t13 _ rfl
    refine ur_ldI rfl rfl ?_
    refine ur_callv rfl rfl (Nat.le_of_ble_eq_true rfl) (Nat.le_of_ble_eq_true rfl) rfl (sp_isRet _ _) ?_
    refine ur_neB rfl (fun c20 => ?_) (fun c20 => ?_)
    · have t21 := wi_toL c20 l_m60 l_60
      obtain ⟨g42, f23, f24, f25, f26, f27, f28, f29, f30, f31, f32, q33, q34, o35, q36, hc22, k37, k38, k39, k40, k41⟩ := hO0.comet k16.2
      have t43 := fO_of (k := 7) hc22 rfl
      have t44 := fO_of (k := 8) hc22 rfl
      have t45 := fO_of (k := 9) hc22 rfl
      refine ur_ldA rfl rfl ?_
      refine ur_ldI rfl rfl ?_
      refine ur_inl rfl (rcv_of hc22) (Nat.le_of_ble_eq_true rfl) (Nat.le_of_ble_eq_true rfl) (sd_X2_hasReturn hO0 g42 k16.2 _ (fun w46 hr47 => ?_))
      obtain ⟨b48, rfl, t49, t50⟩ := hr47
      show uRun _ (uCall Mt _) _ 27 (_, [(.inl (bi b48))], _, _, _)
      refine ur_neB rfl (fun c51 => ?_) (fun c51 => ?_)
      · have t52 := t49 c51
        clear t49 t50
        refine ur_ldA rfl rfl ?_
        refine ur_get rfl hc22 rfl ?_
        refine ur_push rfl ?_
        refine ur_if2 rfl (fun c53 => ?_) (fun c53 => ?_)
        · have t54 := eq_to c53
          refine ur_ldA rfl rfl ?_
          refine ur_get rfl hc6 rfl ?_
          refine ur_get rfl hc1 rfl ?_
          refine ur_push rfl ?_
          refine ur_binV rfl (fun x55 e56 => ?_)
          have z57 := any_r f3
          have t58 := ti_add e56 (by omega) (by omega)
          refine ur_push rfl ?_
          refine ur_if2 rfl (fun c59 => ?_) (fun c59 => ?_)
          · have t60 := le_to c59
            have hr61 : ∀ z, cz h0 a1.toInt z → fO h0 z 8 ≤ a2.toInt ∧ a2.toInt ≤ fO h0 z 9 := fun y w => by have e := cz_u t17.2 w; subst e; omega
            refine ur_ldA rfl rfl ?_
            refine ur_get rfl hc6 rfl ?_
            refine ur_ldI rfl rfl ?_
            refine ur_ldI rfl rfl ?_
            refine ur_inl rfl (rcv_of hc1) (Nat.le_of_ble_eq_true rfl) (Nat.le_of_ble_eq_true rfl) (se_X6_breakComet hO0 _ _ (by show -60 ≤ a2.toInt ∧ a2.toInt ≤ 60; omega) pre0 (by omega) hr61 (by omega) pre1 pre2 (fun w62 h69 hr63 hO69 hv69 hp64 hp65 hp66 hp67 hp68 => ?_))
            have hu69 := hv69
            obtain ⟨x70, rfl, t71⟩ := hr63
            show uRun _ (uCall Mt _) _ 71 (_, [(.inl x70)], _, _, _)
            obtain ⟨f73, f74, hc72, k75⟩ := ok_1 hO69
            have t76 := fO_of (k := 4) hc72 rfl
            exact ur_ret rfl rfl (hQ _ _ ⟨_, rfl, ⟨fun q => absurd (by omega) q, fun _ => ⟨r14, t17.2, fun q => absurd q (by omega), fun _ => ⟨fun q => by exfalso; omega, fun _ => ⟨fun q => by exfalso; omega, fun _ => ⟨by omega, by omega⟩⟩⟩⟩⟩⟩ hO69 hu69 (by omega) hp65 hp66 (fun _ => hp67) (fun q => by exfalso; omega) hp68)
          · have t77 := le_no c59
            refine ur_push rfl ?_
            exact ur_ret rfl rfl (hQ _ _ ⟨_, rfl, ⟨fun q => absurd (by omega) q, fun _ => ⟨r14, t17.2, fun q => absurd q (by omega), fun _ => ⟨fun q => by exfalso; omega, fun _ => ⟨fun _ => ⟨by omega, by omega⟩, fun q => by exfalso; omega⟩⟩⟩⟩⟩ hO0 un.rf (by omega) pre0 KCc.rf (fun q => by exfalso; omega) (fun _ => rfl) pre1)
        · have t78 := eq_no c53
          refine ur_push rfl ?_
          exact ur_ret rfl rfl (hQ _ _ ⟨_, rfl, ⟨fun q => absurd (by omega) q, fun _ => ⟨r14, t17.2, fun q => absurd q (by omega), fun _ => ⟨fun _ => ⟨by omega, by omega⟩, fun q => by exfalso; omega⟩⟩⟩⟩ hO0 un.rf (by omega) pre0 KCc.rf (fun q => by exfalso; omega) (fun _ => rfl) pre1)
      · have t79 := t50 c51
        clear t49 t50
        refine ur_push rfl ?_
        exact ur_ret rfl rfl (hQ _ _ ⟨_, rfl, ⟨fun q => absurd (by omega) q, fun _ => ⟨r14, t17.2, fun _ => ⟨by omega, by omega⟩, fun q => by exfalso; omega⟩⟩⟩ hO0 un.rf (by omega) pre0 KCc.rf (fun q => by exfalso; omega) (fun _ => rfl) pre1)
    · have t80 := wi_noL c20 l_m60 l_60
      refine ur_push rfl ?_
      exact ur_ret rfl rfl (hQ _ _ ⟨_, rfl, ⟨fun _ => ⟨by omega, by omega⟩, fun q => by exfalso; omega⟩⟩ hO0 un.rf (by omega) pre0 KCc.rf (fun q => by exfalso; omega) (fun _ => rfl) pre1)

end SG7
