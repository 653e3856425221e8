/-! WORDS of both are the same: laws -/
section WDL
theorem dw_u {G G' : Prop} {c c' d d' x y : Int} (f1 : ¬ G ∧ x = -1 ∧ d = c ∨ G ∧ 150 ≤ c ∧ x = -3 ∧ d = c ∨ G ∧ c < 150 ∧ x = c ∧ d = c + 1) (f2 : ¬ G' ∧ y = -1 ∧ d' = c' ∨ G' ∧ 150 ≤ c' ∧ y = -3 ∧ d' = c' ∨ G' ∧ c' < 150 ∧ y = c' ∧ d' = c' + 1) (e : c' = c) (g : G' ↔ G) : x = y ∧ d = d' := by
  subst e
  by_cases q : G
  · have q' := g.mpr q
    rcases f1 with ⟨a, b⟩ | ⟨-, b⟩ | ⟨-, b⟩
    · exact absurd q a
    all_goals
      rcases f2 with ⟨a, b'⟩ | ⟨-, b'⟩ | ⟨-, b'⟩
      · exact absurd q' a
      · omega
      · omega
  · have q' : ¬ G' := fun z => q (g.mp z)
    rcases f1 with ⟨-, b⟩ | ⟨a, -⟩ | ⟨a, -⟩
    · rcases f2 with ⟨-, b'⟩ | ⟨a, -⟩ | ⟨a, -⟩
      · omega
      · exact absurd a q'
      · exact absurd a q'
    · exact absurd a q
    · exact absurd a q
theorem dw_c {G : Prop} {c d x : Int} (f1 : ¬ G ∧ x = -1 ∧ d = c ∨ G ∧ 150 ≤ c ∧ x = -3 ∧ d = c ∨ G ∧ c < 150 ∧ x = c ∧ d = c + 1) : d = c ∨ (d = c + 1 ∧ G) := by
  rcases f1 with ⟨-, -, e⟩ | ⟨-, -, -, e⟩ | ⟨g, -, -, e⟩
  · exact Or.inl e
  · exact Or.inl e
  · exact Or.inr ⟨e, g⟩
theorem two_u {G : Prop} {a b c d : Int} (r : (G ∧ a = c) ∨ (¬ G ∧ a = d)) (s : (G ∧ b = c) ∨ (¬ G ∧ b = d)) : b = a := by
  rcases r with ⟨g, r⟩ | ⟨g, r⟩
  · rcases s with ⟨k, s⟩ | ⟨k, s⟩
    · rw [s, r]
    · exact absurd g k
  · rcases s with ⟨k, s⟩ | ⟨k, s⟩
    · exact absurd k g
    · rw [s, r]
def W1 (h : aH) (i : Int) (z : Nat) : Prop := fO h z 0 = i ∧ fO h z 1 = gI h 96 i ∧ fO h z 2 = gI h 97 i ∧ fO h z 3 = gI h 101 i ∧ fO h z 4 = gI h 102 i ∧ fO h z 5 = gI h 98 i ∧ fO h z 6 = gI h 99 i ∧ fO h z 7 = gI h 100 i ∧ fO h z 8 = gI h 103 i ∧ (gI h 96 i ≠ 3 → fA h z 9 = some (.inr (.inr none))) ∧ (gI h 96 i = 3 → (0 ≤ gI h 103 i ∧ gI h 103 i < i) ∧ ∃ r, wz h (rt h i) r ∧ fA h z 9 = some (.inr (.inr (some r))))
/-- the words of both are the same -/
def WT (h : aH) : Prop := ∀ i : Int, 0 ≤ i → i < fO h 15 1 → ∃ z, wz h i z ∧ W1 h i z
theorem WT_F : WT hF := fun i h0 h1 => by
  have : fO hF 15 1 = 0 := by decide +kernel
  omega
theorem WT.ce {h : aH} (g : WT h) (c : fO h 15 1 = fI h 38) : CEm h := fun i h0 h1 k => by
  obtain ⟨z, _, w⟩ := g i h0 (by omega)
  exact (w.2.2.2.2.2.2.2.2.2.2 k).1
theorem wI38 {h : aH} (hO : OK h) : 0 ≤ fI h 38 ∧ fI h 38 ≤ 150 := by
  obtain ⟨fs, q⟩ := hO.mod
  obtain ⟨x, p, r⟩ := mf_38 hO q
  rw [fI_of q p]
  exact r
/-- the object at the root of a word -/
theorem WT.root {h : aH} (g : WT h) {i : Int} {z r : Nat} (h0 : 0 ≤ i) (h1 : i < fO h 15 1) (w : wz h i z) (q : rtz h z r) : wz h (rt h i) r := by
  obtain ⟨z', w', a⟩ := g i h0 h1
  obtain rfl := wz_u w w'
  obtain ⟨-, -, -, -, -, -, -, -, -, a9, a10⟩ := a
  by_cases k : gI h 96 i = 3
  · obtain ⟨-, r', b, e⟩ := a10 k
    rcases q with ⟨q1, -⟩ | q
    · rw [e] at q1
      cases q1
    · rw [e] at q
      cases q
      exact b
  · rw [rt_0 k]
    have e := a9 k
    rcases q with ⟨-, q2⟩ | q
    · rw [q2]
      exact w
    · rw [e] at q
      cases q
theorem WT.g {h h1 h2 : aH} (g : WT h) (hO : OK h) (c : fO h 15 1 = fI h 38) (k1 : KWc h h1) (v1 : KWm h h1) (k2 : KWc h1 h2) (v2 : KWm h1 h2) (n1 : fO h 15 1 ≤ fO h1 15 1) (m1 : fI h1 38 = fI h 38) (hn : ∀ i : Int, fO h 15 1 ≤ i → i < fO h2 15 1 → ∃ z, wz h2 i z ∧ W1 h2 i z) : WT h2 := fun i h0 i2 => by
  by_cases q : i < fO h 15 1
  · obtain ⟨z, w, a⟩ := g i h0 q
    obtain ⟨w1, e1⟩ := k1 i z h0 q w
    obtain ⟨w2, e2⟩ := k2 i z h0 (by omega) w1
    have f : ∀ k, k < 10 → fA h2 z k = fA h z k := fun k hk => (e2 k hk).trans (e1 k hk)
    have v : KWm h h2 := v1.tr v2 (by omega)
    have ce := g.ce c
    have er := rt_c ce v h0 (by omega)
    have rr := rt_r ce (wI38 hO).2 h0 (by omega)
    refine ⟨z, w2, ?_⟩
    unfold W1 at a ⊢
    rw [er, fO_eA (f 0 (by decide)), fO_eA (f 1 (by decide)), fO_eA (f 2 (by decide)), fO_eA (f 3 (by decide)), fO_eA (f 4 (by decide)), fO_eA (f 5 (by decide)), fO_eA (f 6 (by decide)), fO_eA (f 7 (by decide)), fO_eA (f 8 (by decide)), f 9 (by decide), v 96 (by decide) (by decide) i h0 (by omega), v 97 (by decide) (by decide) i h0 (by omega), v 98 (by decide) (by decide) i h0 (by omega), v 99 (by decide) (by decide) i h0 (by omega), v 100 (by decide) (by decide) i h0 (by omega), v 101 (by decide) (by decide) i h0 (by omega), v 102 (by decide) (by decide) i h0 (by omega), v 103 (by decide) (by decide) i h0 (by omega)]
    obtain ⟨a0, a1, a2, a3, a4, a5, a6, a7, a8, a9, a10⟩ := a
    refine ⟨a0, a1, a2, a3, a4, a5, a6, a7, a8, a9, fun k => ?_⟩
    obtain ⟨b1, r, b2, b3⟩ := a10 k
    refine ⟨b1, r, ?_, b3⟩
    have x1 := (k1 (rt h i) r rr.1.1 (by omega) b2).1
    exact (k2 (rt h i) r rr.1.1 (by omega) x1).1
  · exact hn i (by omega) i2
theorem WT.k {h h1 h2 : aH} (g : WT h) (hO : OK h) (c : fO h 15 1 = fI h 38) (k1 : KWc h h1) (v1 : KWm h h1) (k2 : KWc h1 h2) (v2 : KWm h1 h2) (n1 : fO h1 15 1 = fO h 15 1) (m1 : fI h1 38 = fI h 38) (n2 : fO h2 15 1 = fO h 15 1) : WT h2 := g.g hO c k1 v1 k2 v2 (by omega) m1 (fun i a b => by omega)
/-- one word has come -/
theorem WT.one {h h1 h2 : aH} {z : Nat} {ki pe re sl y m d mo : Int} (g : WT h) (hO : OK h) (hO2 : OK h2) (c : fO h 15 1 = fI h 38) (k1 : KWc h h1) (v1 : KWm h h1) (k2 : KWc h1 h2) (v2 : KWm h1 h2) (n1 : fO h1 15 1 = fO h 15 1 + 1) (m1 : fI h1 38 = fI h 38) (n2 : fO h2 15 1 = fO h 15 1 + 1) (m2 : fI h2 38 = fI h 38 + 1) (n0 : 0 ≤ fO h 15 1)
    (a : NWz h1 (fO h 15 1) z ki pe re sl y m d mo) (b : NWm h2 (fO h 15 1) ki pe re sl y m d mo) (r3 : ki ≠ 3 → fA h1 z 9 = some (.inr (.inr none))) (r4 : ki = 3 → (0 ≤ mo ∧ mo < fO h 15 1) ∧ ∃ zs r, wz h mo zs ∧ rtz h zs r ∧ fA h1 z 9 = some (.inr (.inr (some r)))) : WT h2 := by
  have ce := g.ce c
  have v : KWm h h2 := v1.tr v2 (by omega)
  obtain ⟨a', e9⟩ := a.k k2 n0 (by omega)
  refine g.g hO c k1 v1 k2 v2 (by omega) m1 (fun i i1 i2 => ?_)
  obtain rfl : i = fO h 15 1 := by omega
  obtain ⟨w, a0, a1, a2, a3, a4, a5, a6, a7, a8⟩ := a'
  obtain ⟨b0, b1, b2, b3, b4, b5, b6, b7⟩ := b
  have ce2 : CEm h2 := fun i h0 h1 k => by
    by_cases q : i < fO h 15 1
    · rw [v 96 (by decide) (by decide) i h0 (by omega)] at k
      rw [v 103 (by decide) (by decide) i h0 (by omega)]
      exact ce i h0 (by omega) k
    · have e : i = fO h 15 1 := by omega
      rw [e] at k ⊢
      rw [b7]
      exact (r4 (b0.symm.trans k)).1
  refine ⟨z, w, a0, a1.trans b0.symm, a2.trans b1.symm, a3.trans b2.symm, a4.trans b3.symm, a5.trans b4.symm, a6.trans b5.symm, a7.trans b6.symm, a8.trans b7.symm, fun k => ?_, fun k => ?_⟩
  · rw [e9]
    exact r3 (fun q => k (b0.trans q))
  · have k' : ki = 3 := b0.symm.trans k
    obtain ⟨l, zs, r, q1, q2, q3⟩ := r4 k'
    have x := g.root l.1 l.2 q1 q2
    have rr := rt_r ce (wI38 hO).2 l.1 (by omega)
    have e : rt h2 (fO h 15 1) = rt h mo := by
      rw [rt_s ce2 (wI38 hO2).2 n0 (by omega) k, b7]
      exact rt_c ce v l.1 (by omega)
    refine ⟨by rw [b7]; exact l, r, ?_, by rw [e9]; exact q3⟩
    rw [e]
    have x1 := (k1 _ r rr.1.1 (by omega) x).1
    exact (k2 _ r rr.1.1 (by omega) x1).1
theorem fl_pt {h h1 : aH} {p k : Int} (t : PT h) (hp : 0 ≤ p ∧ p ≤ 5) (hr : gI h 58 p = 2) (hk : 0 ≤ k ∧ k < 60) (m : KPm h h1) : fl h1 112 (60 * p + k) = fl h (63 + p.toNat) k := by
  unfold fl
  rcases t p hp with g | g | ⟨_, _, _, _, g⟩
  · omega
  · omega
  · rw [gL_e m.2.2, g k hk.1 hk.2]
/-- several words have come out of a row -/
theorem WT.row {h h1 h2 : aH} {p i pe : Int} (g : WT h) (hO : OK h) (c : fO h 15 1 = fI h 38) (k1 : KWc h h1) (v1 : KWm h h1) (k2 : KWc h1 h2) (v2 : KWm h1 h2) (n1 : fO h1 15 1 = fO h2 15 1) (m1 : fI h1 38 = fI h 38) (n2 : fO h 15 1 ≤ fO h2 15 1) (n0 : 0 ≤ fO h 15 1) (t : PT h) (m : KPm h h1) (hp : fO h 15 1 < fO h2 15 1 → (0 ≤ p ∧ p ≤ 5) ∧ gI h 58 p = 2)
    (G : ∀ j : Nat, (j : Int) < fO h2 15 1 - fO h 15 1 → (0 ≤ i + 5 * (j : Int) ∧ i + 5 * (j : Int) + 5 ≤ 60) ∧ (fl h (63 + p.toNat) (i + 5 * (j : Int) + 4) = 0 ∨ fl h (63 + p.toNat) (i + 5 * (j : Int) + 4) = 4 ∨ fl h (63 + p.toNat) (i + 5 * (j : Int) + 4) = 5))
    (a : ∀ j : Nat, (j : Int) < fO h2 15 1 - fO h 15 1 → NWR h h1 p i (fO h 15 1) pe j) (b : ∀ j : Nat, (j : Int) < fO h2 15 1 - fO h 15 1 → NWRm h1 h2 p i (fO h 15 1) pe j) : WT h2 := by
  refine g.g hO c k1 v1 k2 v2 (by omega) m1 (fun x x1 x2 => ?_)
  have ej : ((x - fO h 15 1).toNat : Int) = x - fO h 15 1 := by omega
  have hj : (((x - fO h 15 1).toNat : Nat) : Int) < fO h2 15 1 - fO h 15 1 := by omega
  have hpp := hp (by omega)
  obtain ⟨G1, G2⟩ := G _ hj
  obtain ⟨z, n, e⟩ := a _ hj
  have b' := b _ hj
  obtain ⟨n', e'⟩ := n.k k2 (by omega) (by omega)
  rw [ej] at n' G1 G2
  unfold NWRm at b'
  rw [ej] at b'
  rw [show fO h 15 1 + (x - fO h 15 1) = x by omega] at n' b'
  have f : ∀ k : Int, 0 ≤ k → k < 5 → fl h1 112 (60 * p + (i + 5 * (x - fO h 15 1)) + k) = fl h (63 + p.toNat) (i + 5 * (x - fO h 15 1) + k) := fun k q0 q1 => by
    rw [show 60 * p + (i + 5 * (x - fO h 15 1)) + k = 60 * p + (i + 5 * (x - fO h 15 1) + k) by omega]
    exact fl_pt t hpp.1 hpp.2 (by omega) m
  rw [f 0 (by omega) (by omega), f 1 (by omega) (by omega), f 2 (by omega) (by omega), f 3 (by omega) (by omega), f 4 (by omega) (by omega)] at b'
  obtain ⟨w, a0, a1, a2, a3, a4, a5, a6, a7, a8⟩ := n'
  obtain ⟨b0, b1, b2, b3, b4, b5, b6, b7⟩ := b'
  exact ⟨z, w, a0, a1.trans b0.symm, a2.trans b1.symm, a3.trans b2.symm, a4.trans b3.symm, a5.trans b4.symm, a6.trans b5.symm, a7.trans b6.symm, a8.trans b7.symm, fun _ => e'.trans e, fun k => by rw [b0] at k; omega⟩
theorem ok15_n {h : aH} (hO : OK h) : 0 ≤ fO h 15 1 ∧ fO h 15 1 ≤ 150 := by
  obtain ⟨n, y, m, dd, hc, h0, h1⟩ := ok_15 hO
  rw [fO_of (k := 1) hc rfl]
  exact ⟨h0, h1⟩
theorem WT.rn {h : aH} (g : WT h) (c : fO h 15 1 = fI h 38) {j : Int} (j0 : 0 ≤ j) (j1 : j < fO h 15 1) (hO : OK h) : rn h j = rt h j := by
  obtain ⟨z, w, a⟩ := g j j0 j1
  obtain ⟨a0, -, -, -, -, -, -, -, -, a9, a10⟩ := a
  by_cases k : gI h 96 j = 3
  · obtain ⟨-, r, b, e⟩ := a10 k
    rw [rn_of w (Or.inr e)]
    have rr := rt_r (g.ce c) (wI38 hO).2 j0 (by omega)
    obtain ⟨r', w', a'⟩ := g (rt h j) rr.1.1 (by omega)
    obtain rfl := wz_u b w'
    exact a'.1
  · rw [rn_of w (Or.inl ⟨a9 k, rfl⟩), rt_0 k]
    exact a0
end WDL
