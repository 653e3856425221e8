/-! ONE CALL OF BOTH, with the room that the launch gives -/
section HOP
variable {R1 R2 : Int}
theorem nS_nC (h : aH) : nS h ≤ nC h := by
  unfold nS nC
  have : h.countP pS ≤ h.countP pC := List.countP_mono_left (fun c _ hc => by
    match c, hc with
    | .inl (2, _), _ => rfl
    | .inl (0, _), hc => exact absurd hc (by simp [pS])
    | .inl (1, _), hc => exact absurd hc (by simp [pS])
    | .inl (n + 3, _), hc => exact absurd hc (by simp [pS])
    | .inr _, hc => exact absurd hc (by simp [pS]))
  omega
theorem GH.len {h : aH} {n : Nat} (g : GH R1 R2 h n) : (h.length : Int) ≤ R1 + 22 * n := by
  obtain ⟨-, -, g1, g2, g3, -⟩ := g
  have := nS_nC h
  unfold rs1 at g3
  omega
theorem GH.sz {h : aH} {n : Nat} (g : GH R1 R2 h n) : (sz h : Int) ≤ R2 + 18350 * n := by
  obtain ⟨-, -, g1, g2, -, g3⟩ := g
  have := nS_nC h
  unfold rs2 at g3
  omega
theorem GH.m11 {h : aH} {n : Nat} (g : GH R1 R2 h n) : ∃ fs, h[0]? = some (.inl (11, fs)) := by
  obtain ⟨fs, h1, -, -⟩ := g.1.obj (a := 0) (ci := 11) (n := T0.head!.2) (g.1.2 0 (by decide)) (by decide)
  exact ⟨fs, h1⟩
/-- both calls, the class's first -/
def aBoth (P : aV → Prop) (E : aV → aV → Prop) (ci ri : Nat) (vs : List aV) (J : aH → Nat → Nat → Prop) (h : aH) (kc ks : Nat) : Prop :=
  ∃ (mc ms : Nat) (fs : List aV), mc ≤ kc ∧ ms ≤ ks ∧ h[0]? = some (.inl (11, fs)) ∧ aCall Mt 60 ci (.inr (.inr (some 0)) :: vs) h mc ms (fun r h' => ∃ (x : aV) (mc2 ms2 : Nat) (gs : List aV), r = some x ∧ P x ∧ mc2 ≤ kc - mc ∧ ms2 ≤ ks - ms ∧ h'[69]? = some (.inl (12, gs)) ∧ aCall Mt 60 ri (.inr (.inr (some 69)) :: vs) h' mc2 ms2 (fun r2 h'' => (∃ y, r2 = some y ∧ E x y) ∧ J h'' (kc - mc - mc2) (ks - ms - ms2)))
def gInv (R1 R2 : Int) (K S : Nat) (j : Nat) (h : aH) (kc ks : Nat) : Prop := ∃ n : Nat, 3 * n ≤ j ∧ GH R1 R2 h n ∧ h.length + kc = K ∧ sz h + ks = S
theorem both {E : aV → aV → Prop} {P1 P2 : aV → Prop} {ci ri : Nat} {vs : List aV} {h : aH} {kc ks K S j : Nat} (hK : R1 + 22 * 130 ≤ K) (hS : R2 + 18350 * 130 ≤ S) (hj : j + 6 ≤ 384) (hI : gInv R1 R2 K S j h kc ks)
    (c1 : ∀ {n : Nat} {h : aH} {Q : Option aV → aH → Prop}, GH R1 R2 h n → (∀ r h', (∃ x, r = some x ∧ P1 x) → GH R1 R2 h' (n + 1) → Q r h') → uCall Mt 60 ci (.inr (.inr (some 0)) :: vs) h 0 0 Q)
    (c2 : ∀ {n : Nat} {h : aH} {Q : Option aV → aH → Prop}, GH R1 R2 h n → (∀ r h', (∃ x, r = some x ∧ P2 x) → GH R1 R2 h' (n + 1) → Q r h') → uCall Mt 60 ri (.inr (.inr (some 69)) :: vs) h 0 0 Q)
    (hE : ∀ x y, P1 x → P2 y → E x y) : aBoth P1 E ci ri vs (gInv R1 R2 K S (j + 6)) h kc ks := by
  obtain ⟨n, hn, hG, e1, e2⟩ := hI
  obtain ⟨r, h1, ⟨⟨x, hx, p1⟩, hG1⟩, l1, s1, a1⟩ := u_exact 60 ci _ h 0 0 (fun r h' => (∃ x, r = some x ∧ P1 x) ∧ GH R1 R2 h' (n + 1)) (c1 hG (fun r h' a b => ⟨a, b⟩))
  obtain ⟨r2, h2, ⟨⟨y, hy, p2⟩, hG2⟩, l2, s2, a2⟩ := u_exact 60 ri _ h1 0 0 (fun r h' => (∃ x, r = some x ∧ P2 x) ∧ GH R1 R2 h' (n + 1 + 1)) (c2 hG1 (fun r h' a b => ⟨a, b⟩))
  have b1 := hG1.len
  have b2 := hG2.len
  have b3 := hG1.sz
  have b4 := hG2.sz
  obtain ⟨fs, m1⟩ := hG.m11
  obtain ⟨gs, m2⟩ := hG1.1.mod
  refine ⟨h1.length - h.length, sz h1 - sz h, fs, by omega, by omega, m1, ac_post a1 (fun r' h' q => ?_)⟩
  obtain ⟨q1, q2⟩ := q
  subst q2
  refine ⟨x, h2.length - h'.length, sz h2 - sz h', gs, q1.trans hx, p1, by omega, by omega, m2, ac_post a2 (fun r' h'' q => ?_)⟩
  obtain ⟨q1, q2⟩ := q
  subst q2
  exact ⟨⟨y, q1.trans hy, hE x y p1 p2⟩, n + 1 + 1, by omega, hG2, by omega, by omega⟩
end HOP
