section SKT
theorem nxF_c {R P R' P' : Int → Int} {n : Int} (e : ∀ j : Int, 0 ≤ j → j < n → R' j = R j ∧ P' j = P j) (sp : Int) : nxF R' P' n sp = nxF R P n sp := funext fun t => by
  rw [nxF_eq, nxF_eq]
  unfold nxF0
  rw [plF_c (fun j j0 j1 => e j j0 (by omega))]
theorem saF_c {P P' : Int → Int} : ∀ {n : Nat}, (∀ j : Int, 0 ≤ j → j < (n : Int) → P' j = P j) → saF P' n = saF P n
  | 0, _ => rfl
  | n + 1, h => by
    have ih := saF_c (n := n) (P := P) (P' := P') (fun j j0 j1 => h j j0 (by omega))
    show saF P' n + P' (n : Int) = saF P n + P (n : Int)
    rw [ih, h (n : Int) (by omega) (by omega)]
/-- the skies of both are the same -/
def STr (h : aH) : Prop := (∀ i : Int, 0 ≤ i → i < fO h 1 2 → gI h 2 i = gI h 70 i ∧ gI h 3 i = gI h 71 i) ∧ ∀ (c : Int) (z : Nat), 0 ≤ c → c < fO h 1 4 → cz h c z → ∀ k : Nat, k < 8 → fO h z k = gI h (72 + k) c
def TS (h : aH) : Prop := SKc h ∧ SKm h ∧ STr h
theorem STr.g {h h1 h2 : aH} (g : STr h) (hS : SKc h) (k1 : KCc 7 h h1) (k2 : KCc 7 h1 h2) (m1 : KMs 79 h h1) (m2 : KMs 79 h1 h2) (n1 : fO h 1 4 ≤ fO h1 1 4) (c : fI h 4 = fO h 1 4) (c1 : fI h 4 ≤ fI h1 4) (gr : ∀ i : Int, 0 ≤ i → i < fO h2 1 2 → gI h2 2 i = gI h2 70 i ∧ gI h2 3 i = gI h2 71 i) (h7 : ∀ (c : Int) (z : Nat), 0 ≤ c → c < fO h 1 4 → cz h c z → fO h2 z 7 = gI h2 79 c) (hn : ∀ (c : Int) (z : Nat), fO h 1 4 ≤ c → c < fO h2 1 4 → cz h2 c z → ∀ k : Nat, k < 8 → fO h2 z k = gI h2 (72 + k) c) : STr h2 := by
  refine ⟨gr, fun d z d0 d1 w k hk => ?_⟩
  by_cases q : d < fO h 1 4
  · obtain ⟨z0, w0, -⟩ := hS.2.1 d d0 q
    obtain ⟨w1, e1⟩ := k1 d z0 d0 q w0
    obtain ⟨w2, e2⟩ := k2 d z0 d0 (by omega) w1
    have ez := cz_u w w2
    subst ez
    by_cases s : k = 7
    · rw [s]
      exact h7 d z d0 q w0
    · rw [fO_eA (e2 k (by omega)), fO_eA (e1 k (by omega)), m2 (72 + k) (by omega) (by omega) d d0 (by omega), m1 (72 + k) (by omega) (by omega) d d0 (by omega)]
      exact g.2 d z d0 q w0 k hk
  · exact hn d z (by omega) d1 w k hk
/-- what stays of the greats -/
theorem STr.gr {h h1 h2 : aH} (g : STr h) (n : fO h2 1 2 = fO h 1 2) (a2 : arI h1 2 = arI h 2 ∧ arI h1 3 = arI h 3) (b2 : arI h1 70 = arI h 70 ∧ arI h1 71 = arI h 71) (c2 : arI h2 2 = arI h1 2 ∧ arI h2 3 = arI h1 3) (d2 : arI h2 70 = arI h1 70 ∧ arI h2 71 = arI h1 71) : ∀ i : Int, 0 ≤ i → i < fO h2 1 2 → gI h2 2 i = gI h2 70 i ∧ gI h2 3 i = gI h2 71 i := fun i i0 i1 => by
  rw [gI_e c2.1, gI_e c2.2, gI_e d2.1, gI_e d2.2, gI_e a2.1, gI_e a2.2, gI_e b2.1, gI_e b2.2]
  exact g.1 i i0 (by omega)
theorem STr.h7 {h h1 h2 : aH} (g : STr h) (k1 : KCc 8 h h1) (k2 : KCc 8 h1 h2) (m1 : KMs 80 h h1) (m2 : KMs 80 h1 h2) (n1 : fO h 1 4 ≤ fO h1 1 4) (c : fI h 4 = fO h 1 4) (c1 : fI h 4 ≤ fI h1 4) : ∀ (c : Int) (z : Nat), 0 ≤ c → c < fO h 1 4 → cz h c z → fO h2 z 7 = gI h2 79 c := fun d z d0 q w0 => by
  obtain ⟨w1, e1⟩ := k1 d z d0 q w0
  obtain ⟨w2, e2⟩ := k2 d z d0 (by omega) w1
  rw [fO_eA (e2 7 (by omega)), fO_eA (e1 7 (by omega)), m2 79 (by omega) (by omega) d d0 (by omega), m1 79 (by omega) (by omega) d d0 (by omega)]
  exact g.2 d z d0 q w0 7 (by decide)
theorem STr.k {h h1 h2 : aH} (g : STr h) (hS : SKc h) (k1 : KCc 8 h h1) (k2 : KCc 8 h1 h2) (m1 : KMs 80 h h1) (m2 : KMs 80 h1 h2) (n1 : fO h1 1 4 = fO h 1 4) (n2 : fO h2 1 4 = fO h 1 4) (c : fI h 4 = fO h 1 4) (c1 : fI h1 4 = fI h 4) (gr : ∀ i : Int, 0 ≤ i → i < fO h2 1 2 → gI h2 2 i = gI h2 70 i ∧ gI h2 3 i = gI h2 71 i) : STr h2 := g.g hS (k1.le (by decide)) (k2.le (by decide)) (m1.le (by decide)) (m2.le (by decide)) (by omega) c (by omega) gr (g.h7 k1 k2 m1 m2 (by omega) c (by omega)) (fun d z d0 d1 => by omega)
theorem NCz.k {h h2 : aH} {c : Int} {z : Nat} {p s nd rc w b pa : Int} (g : NCz h c z p s nd rc w b pa) (k : KCc 8 h h2) (h0 : 0 ≤ c) (h1 : c < fO h 1 4) : NCz h2 c z p s nd rc w b pa := by
  obtain ⟨w, e⟩ := g
  obtain ⟨w', f⟩ := k c z h0 h1 w
  refine ⟨w', ?_⟩
  rw [fO_eA (f 0 (by decide)), fO_eA (f 1 (by decide)), fO_eA (f 2 (by decide)), fO_eA (f 3 (by decide)), fO_eA (f 4 (by decide)), fO_eA (f 5 (by decide)), fO_eA (f 6 (by decide)), fO_eA (f 7 (by decide))]
  exact e
/-- a comet that has come on both sides -/
theorem NC_eq {h : aH} {c : Int} {y z : Nat} {p s nd rc w b pa : Int} (a : NCz h c z p s nd rc w b pa) (m : NMz h c p s nd rc w b pa (-2000000000)) (wy : cz h c y) : ∀ k : Nat, k < 8 → fO h y k = gI h (72 + k) c := fun k hk => by
  obtain ⟨wz, a0, a1, a2, a3, a4, a5, a6, a7⟩ := a
  obtain ⟨m0, m1, m2, m3, m4, m5, m6, m7⟩ := m
  have e := cz_u wy wz
  subst e
  rcases (show k = 0 ∨ k = 1 ∨ k = 2 ∨ k = 3 ∨ k = 4 ∨ k = 5 ∨ k = 6 ∨ k = 7 by omega) with q | q | q | q | q | q | q | q <;> subst q
  · exact a0.trans m0.symm
  · exact a1.trans m1.symm
  · exact a2.trans m2.symm
  · exact a3.trans m3.symm
  · exact a4.trans m4.symm
  · exact a5.trans m5.symm
  · exact a6.trans m6.symm
  · exact a7.trans m7.symm
theorem d3_u {G : Prop} {cap add c c' d d' x y : Int} (f1 : ¬ G ∧ x = -1 ∧ d = c ∨ G ∧ cap ≤ c ∧ x = -3 ∧ d = c ∨ G ∧ c < cap ∧ x = c + add ∧ d = c + 1) (f2 : ¬ G ∧ y = -1 ∧ d' = c' ∨ G ∧ cap ≤ c' ∧ y = -3 ∧ d' = c' ∨ G ∧ c' < cap ∧ y = c' + add ∧ d' = c' + 1) (e : c' = c) : x = y ∧ d = d' ∧ (d = c ∨ d = c + 1) := by
  subst e
  rcases f1 with ⟨a, b⟩ | ⟨a, b⟩ | ⟨a, b⟩ <;> rcases f2 with ⟨a', b'⟩ | ⟨a', b'⟩ | ⟨a', b'⟩
  · omega
  · exact absurd a' a
  · exact absurd a' a
  · exact absurd a a'
  · omega
  · omega
  · exact absurd a a'
  · omega
  · omega
/-- both reckon alike -/
theorem NM_NX {h h1 : aH} (g : STr h) (b : arI h1 70 = arI h 70 ∧ arI h1 71 = arI h 71) (n : fI h1 1 = fO h 1 2) (sp : Int) : NMh h1 sp = NXh h sp := by
  unfold NMh NXh
  rw [n]
  exact nxF_c (fun j j0 j1 => by rw [gI_e b.1, gI_e b.2, (g.1 j j0 j1).1, (g.1 j j0 j1).2]; exact ⟨rfl, rfl⟩) sp
/-- a return's pass on both sides -/
theorem ret_eq {h h1 : aH} {c k t : Int} {z : Nat} (g : TS h) (b : arI h1 70 = arI h 70 ∧ arI h1 71 = arI h 71) (n : fI h1 1 = fO h 1 2) (m : KMs 80 h h1) (e4 : fI h 4 = fO h 1 4) (c0 : 0 ≤ c) (c1 : c < fO h 1 4) (w : cz h c z) (hk : -60 ≤ k ∧ k ≤ 60) (r : retV (NMh h1 (gI h1 73 c)) (gI h1 73 c) (gI h1 72 c) k t) : t = cf h z k ∧ ((fO h z 8 ≤ k ∧ k ≤ fO h z 9) → 0 ≤ t) ∧ (¬ (fO h z 8 ≤ k ∧ k ≤ fO h z 9) → t = -1) := by
  obtain ⟨g1, g2, g3⟩ := g
  obtain ⟨y, wy, -, p⟩ := g1.2.1 c c0 c1
  have e := cz_u wy w
  subst e
  have p := p c1
  rw [NM_NX g3 b n, m 73 (by decide) (by decide) c c0 (by omega), m 72 (by decide) (by decide) c c0 (by omega), ← g3.2 c y c0 c1 w 1 (by decide), ← g3.2 c y c0 c1 w 0 (by decide)] at r
  have q := retV_u r p hk
  refine ⟨q, fun u => ?_, fun u => ?_⟩
  · rw [q]
    exact (p.2 k u.1 u.2).1
  · rw [q]
    unfold cf
    rw [if_neg u]
end SKT
