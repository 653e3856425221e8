section SG9
/-! SIGHT: what ties both sides -/
section FTE
variable {n : Int} {V : Int → Int} {sl : Int} {C A W W' : Int → Prop} {ki x y t : Int}
theorem FPq.nn {d : Int} (q : FPq n V sl C A W d) : 0 ≤ d := by
  obtain ⟨⟨i, -, s⟩, -⟩ := q
  have := spF_0 (v := V i) (s := sl)
  unfold SPi at s
  omega
theorem least_d {P : Int → Prop} (h0 : ∀ d, P d → 0 ≤ d) (h : ∃ d, P d) : ∃ d, P d ∧ ∀ e, P e → d ≤ e := by
  obtain ⟨d, p⟩ := h
  have k : ∀ m : Nat, ∀ d : Int, P d → d.toNat < m → ∃ d, P d ∧ ∀ e, P e → d ≤ e := fun m => by
    induction m with
    | zero => exact fun d _ hd => by omega
    | succ m ih =>
      intro d p hd
      by_cases q : ∃ e, P e ∧ e < d
      · obtain ⟨e, pe, l⟩ := q
        have := h0 e pe
        exact ih e pe (by omega)
      · refine ⟨d, p, fun e pe => ?_⟩
        by_cases l : e < d
        · exact absurd ⟨e, pe, l⟩ q
        · omega
  exact k (d.toNat + 1) d p (by omega)
theorem FTD.ex : ∃ x, FTD n V sl C A W ki x := by
  by_cases q : FTw n V sl C A ki ∧ ∃ d, FPq n V sl C A W d
  · obtain ⟨d, p, l⟩ := least_d (P := FPq n V sl C A W) (fun d p => p.nn) q.2
    exact ⟨d, Or.inr ⟨p.nn, q.1, p, l⟩⟩
  · exact ⟨-1, Or.inl ⟨rfl, fun w d p => q ⟨w, d, p⟩⟩⟩
/-- a day ahead of t: the least of all lies there -/
theorem FTD.lt (a : FTD n V sl C A W ki x) (b : FTD n V sl C A W' ki y) (hC : ∀ d, C d → -120 ≤ d - t ∧ d - t ≤ 120) (hW : ∀ d, W d ↔ (-120 ≤ d - t ∧ d - t ≤ -1)) (hW' : ∀ d, 0 ≤ d → W' d) : x ≠ -1 ↔ (0 ≤ y ∧ y < t) := by
  rcases a with ⟨a1, a2⟩ | ⟨a1, a2, a3, a4⟩
  · refine ⟨fun q => absurd a1 q, fun q => ?_⟩
    rcases b with ⟨b1, -⟩ | ⟨b1, b2, ⟨b3, b4, b5, -⟩, -⟩
    · omega
    · have := hC y b4
      exact absurd ⟨b3, b4, b5, (hW y).mpr ⟨by omega, by omega⟩⟩ (a2 b2 y)
  · refine ⟨fun _ => ?_, fun _ => by omega⟩
    obtain ⟨s, c, u, w⟩ := a3
    have w1 := (hW x).mp w
    have p : FPq n V sl C A W' x := ⟨s, c, u, hW' x a1⟩
    rcases b with ⟨-, b2⟩ | ⟨b1, -, -, b4⟩
    · exact absurd p (b2 a2 x)
    · have := b4 x p
      omega
end FTE
/-- what holds of a word and of a comet on both sides -/
def BUw (h h1 : aH) (i : Int) (w : Nat) : Prop := nM h1 (rt h1 i) = fO h (ro h w) 10 ∧ (∀ j, 0 ≤ j → j < fO h (ro h w) 10 → VM h1 (LL h1) (rt h1 i) j = VC h (ro h w) j) ∧ gI h1 102 (rt h1 i) = fO h (ro h w) 4 ∧ gI h1 96 i = fO h w 1 ∧ gI h1 97 i = fO h w 2 ∧ gI h1 103 i = fO h w 8
def BUc (h h1 : aH) (c : Int) (z : Nat) : Prop := ∀ k : Nat, k < 8 → gI h1 (72 + k) c = fO h z k
theorem FZ_iff {ls l1 : List (List (Int × Int) × List (Int × Int))} {h h1 : aH} {i c t x : Int} {w z : Nat} {W W' : Int → Prop} (bw : BUw h h1 i w) (bc : BUc h h1 c z) (eW : ∀ d, -120 ≤ d - t → d - t ≤ 120 → 0 ≤ d → (W' d ↔ W d)) : FCz ls l1 h w z t W x ↔ FMz ls l1 h1 (LL h1) i c t 0 W' x := by
  obtain ⟨en, eV, es, ek, ep, em⟩ := bw
  have e2 : gI h1 74 c = fO h z 2 := bc 2 (by decide)
  have e3 : gI h1 75 c = fO h z 3 := bc 3 (by decide)
  have e4 : gI h1 76 c = fO h z 4 := bc 4 (by decide)
  have e5 : gI h1 77 c = fO h z 5 := bc 5 (by decide)
  have nn : ∀ (V : Int → Int) (sl d j : Int), SPi V sl d j → 0 ≤ d := fun V sl d j s => by
    have := spF_0 (v := V j) (s := sl)
    unfold SPi at s
    omega
  unfold FCz FMz
  rw [ek, ep, em, e2, e3, e4, e5]
  constructor
  · intro a
    exact FTD.c a en (fun j j0 j1 => by show VM h1 (LL h1) (rt h1 i) j + 0 = _; rw [Int.add_zero]; exact eV j j0 j1) es rfl (fun d => Iff.rfl) (fun d _ => Iff.rfl) (fun d j _ _ s k _ => eW d k.1.1 k.1.2 (nn _ _ _ _ s))
  · intro b
    exact FTD.c b en.symm (fun j j0 j1 => by show _ = VM h1 (LL h1) (rt h1 i) j + 0; rw [Int.add_zero]; exact (eV j j0 (by omega)).symm) es.symm rfl (fun d => Iff.rfl) (fun d _ => Iff.rfl) (fun d j _ _ s k _ => (eW d k.1.1 k.1.2 (nn _ _ _ _ s)).symm)
theorem FW_iff {ls l1 : List (List (Int × Int) × List (Int × Int))} {h h1 : aH} {i c t : Int} {w z : Nat} (bw : BUw h h1 i w) (bc : BUc h h1 c z) : FWm ls l1 h1 (LL h1) i c 0 t ↔ FWz ls l1 h w z t := by
  unfold FWm FWz
  have k : ∀ y, FCz ls l1 h w z t (fun d => -120 ≤ d - t ∧ d - t ≤ 120) y ↔ FMz ls l1 h1 (LL h1) i c t 0 (fun d => 0 ≤ d) y := fun y => FZ_iff bw bc (fun d d0 d1 d2 => ⟨fun _ => ⟨d0, d1⟩, fun _ => d2⟩)
  exact ⟨fun ⟨y, f, n⟩ => ⟨y, (k y).mpr f, n⟩, fun ⟨y, f, n⟩ => ⟨y, (k y).mp f, n⟩⟩
theorem GA_iff {ls l1 : List (List (Int × Int) × List (Int × Int))} {h h1 : aH} {i u c t : Int} {w o z : Nat} (bw : BUw h h1 i w) (bo : BUw h h1 u o) (bc : BUc h h1 c z) : GBz ls l1 h w o z t ↔ AHm ls l1 h1 (LL h1) i u c t := by
  unfold GBz AHm
  have k0 : ∀ y, FCz ls l1 h w z t (fun d => 0 ≤ d) y ↔ FMz ls l1 h1 (LL h1) i c t 0 (fun d => 0 ≤ d) y := fun y => FZ_iff bw bc (fun d _ _ _ => Iff.rfl)
  have k2 : ∀ y, FCz ls l1 h o z t (fun d => 1 ≤ d - t ∧ d - t ≤ 120) y ↔ FMz ls l1 h1 (LL h1) u c t 0 (fun d => t + 1 ≤ d) y := fun y => FZ_iff bo bc (fun d d0 d1 _ => ⟨fun q => ⟨by omega, d1⟩, fun q => by omega⟩)
  have k1 : (∃ y, FCz ls l1 h w z t (fun d => -120 ≤ d - t ∧ d - t ≤ -1) y ∧ y ≠ -1) ↔ ∃ y, FMz ls l1 h1 (LL h1) i c t 0 (fun d => 0 ≤ d) y ∧ 0 ≤ y ∧ y < t := by
    constructor
    · rintro ⟨y, f, n⟩
      unfold FCz at f
      obtain ⟨x, g⟩ := FTD.ex (n := fO h (ro h w) 10) (V := VC h (ro h w)) (sl := fO h (ro h w) 4) (C := fun d => canP ls (fO h z 2) (fO h z 4) (fO h z 3) (fO h z 5) (fO h w 2) t d) (A := fun d => asP l1 (fO h w 1) (fO h w 8) (fO h w 2) (fO h z 2) (fO h z 4) (fO h z 3) (fO h z 5) (d - t) d) (W := fun d => 0 ≤ d) (ki := fO h w 1)
      exact ⟨x, (k0 x).mp g, (FTD.lt (t := t) f g (fun d c => c.1) (fun d => Iff.rfl) (fun d h => h)).mp n⟩
    · rintro ⟨x, g, l⟩
      have g := (k0 x).mpr g
      unfold FCz at g
      obtain ⟨y, f⟩ := FTD.ex (n := fO h (ro h w) 10) (V := VC h (ro h w)) (sl := fO h (ro h w) 4) (C := fun d => canP ls (fO h z 2) (fO h z 4) (fO h z 3) (fO h z 5) (fO h w 2) t d) (A := fun d => asP l1 (fO h w 1) (fO h w 8) (fO h w 2) (fO h z 2) (fO h z 4) (fO h z 3) (fO h z 5) (d - t) d) (W := fun d => -120 ≤ d - t ∧ d - t ≤ -1) (ki := fO h w 1)
      exact ⟨y, f, (FTD.lt (t := t) f g (fun d c => c.1) (fun d => Iff.rfl) (fun d h => h)).mpr l⟩
  have r : ∀ y, FMz ls l1 h1 (LL h1) u c t 0 (fun d => t + 1 ≤ d) y → (y ≠ -1 ↔ 0 ≤ y) := fun y f => by
    have q := FTD.r f
    omega
  rw [k1]
  exact ⟨fun ⟨p, y, f, n⟩ => ⟨p, y, (k2 y).mp f, (r y ((k2 y).mp f)).mp n⟩, fun ⟨p, y, f, n⟩ => ⟨p, y, (k2 y).mpr f, (r y f).mpr n⟩⟩
theorem cm_fl {h : aH} {z : Nat} (hO : OK h) (t : tg h z = (102, 14)) : -60 ≤ fO h z 8 ∧ fO h z 9 ≤ 60 := by
  obtain ⟨-, p, s, nd, rc, wy, b, pa, bo, f, l, q1, q2, sg, q3, c, k1, k2, k3, k4, k5, k6, k7, k8⟩ := hO.comet t
  rw [fO_of (k := 8) c rfl, fO_of (k := 9) c rfl]
  omega
/-- the texts of who sees and of tails -/
noncomputable def LQ (h : aH) (p : Nat) : List (List (Int × Int) × List (Int × Int)) := Classical.epsilon (fun ls => RLn h p ls)
theorem LQ_e {h : aH} {p : Nat} {ls : List (List (Int × Int) × List (Int × Int))} (H : RLn h p ls) : LQ h p = ls := (Classical.epsilon_spec (p := fun ls => RLn h p ls) ⟨ls, H⟩ : RLn h p (LQ h p)).inj H
def TY0 (h : aH) : Prop := ∀ n, n ≤ 1 → ∃ ls : List (List (Int × Int) × List (Int × Int)), RLn h n ls ∧ (∀ l ∈ ls, lnG l) ∧ txC h (9 + 2 * n) = cfl 0 ls
theorem TY0.lq {h h' : aH} (T : TY0 h) (k : KN h h') {n : Nat} (hn : n ≤ 1) : LQ h' n = LQ h n := by
  obtain ⟨ls, r, -⟩ := T n hn
  rw [LQ_e r, LQ_e (r.keep k (by omega))]
theorem TY0.a {h : aH} (T : TY0 h) {n : Nat} (hn : n ≤ 1) : RLn h n (LQ h n) ∧ (∀ l ∈ LQ h n, lnG l) ∧ txC h (9 + 2 * n) = cfl 0 (LQ h n) := by
  obtain ⟨ls, r, g, e⟩ := T n hn
  rw [LQ_e r]
  exact ⟨r, g, e⟩
theorem TY0.k {h h' : aH} (T : TY0 h) (c : ∀ q ∈ TXQ, txC h' q = txC h q) (k : KN h h') : TY0 h' := fun n hn => by
  obtain ⟨ls, r, g, e⟩ := T n hn
  refine ⟨ls, r.keep k (by omega), g, ?_⟩
  rw [c _ (by rcases (show n = 0 ∨ n = 1 by omega) with rfl | rfl <;> decide), e]
def TA9 (h : aH) : Prop := txC h 9 = cfl 0 (LQ h 0)
def TA11 (h : aH) : Prop := txC h 11 = cfl 0 (LQ h 1)
def GDA (h : aH) : Prop := ∀ l ∈ LQ h 0, lnG l
def GDB (h : aH) : Prop := ∀ l ∈ LQ h 1, lnG l
def RLA (h : aH) : Prop := RLn h 0 (LQ h 0)
def RLB (h : aH) : Prop := RLn h 1 (LQ h 1)
def SGV0 (h : aH) : Prop := SGc (LQ h 0) h
def V8a (h : aH) : Prop := 1 ≤ fO h 8 4
def V8b (h : aH) : Prop := fO h 8 4 ≤ 1000000
def SGV (h : aH) : Prop := SGc (LQ h 0) h ∧ 1 ≤ fO h 8 4
theorem LDm.w {h : aH} (g : LDm h) (T : WT h) (c : fO h 15 1 = fI h 38) : LDw h := fun j z j0 j1 w k => by
  obtain ⟨z', w', p0, p1, p2, p3, p4, p5, p6, p7, p8, -⟩ := T j j0 j1
  obtain rfl := wz_u w w'
  rw [p8]
  exact g j j0 (by omega) (by rw [← p1]; exact k)
theorem vv_un {W : List Nat} {h h' : aH} (hO : OK h) (u : un W h h') (w : ∀ a ∈ [90, 91, 92, 97, 98, 99, 100, 101, 102], a ∉ W) : ∀ a ∈ [90, 91, 92, 97, 98, 99, 100, 101, 102], arI h' a = arI h a := by
  have k : ∀ a n : Nat, a ∈ [90, 91, 92, 97, 98, 99, 100, 101, 102] → a < 114 → T0.getD a (999, 0) = (0, n) → scA a = false → (0, n) ∉ meM → arI h' a = arI h a := fun a n h0 h1 h2 h3 h4 => arI_keep (a := a) (kd := 0) (n := n) hO u h1 h2 (by decide) h3 h4 (w a h0)
  intro a ha
  rcases (show a = 90 ∨ a = 91 ∨ a = 92 ∨ a = 97 ∨ a = 98 ∨ a = 99 ∨ a = 100 ∨ a = 101 ∨ a = 102 by simpa only [List.mem_cons, List.not_mem_nil, or_false] using ha) with rfl | rfl | rfl | rfl | rfl | rfl | rfl | rfl | rfl
  · exact k 90 20 (by decide) (by decide) rfl rfl (by decide)
  · exact k 91 20 (by decide) (by decide) rfl rfl (by decide)
  · exact k 92 20 (by decide) (by decide) rfl rfl (by decide)
  · exact k 97 150 (by decide) (by decide) rfl rfl (by decide)
  · exact k 98 150 (by decide) (by decide) rfl rfl (by decide)
  · exact k 99 150 (by decide) (by decide) rfl rfl (by decide)
  · exact k 100 150 (by decide) (by decide) rfl rfl (by decide)
  · exact k 101 150 (by decide) (by decide) rfl rfl (by decide)
  · exact k 102 150 (by decide) (by decide) rfl rfl (by decide)
theorem TY0.m {h h1 : aH} (T : TY0 h) (k : KN h h1) : RLA h1 ∧ GDA h1 ∧ RLB h1 ∧ GDB h1 := by
  obtain ⟨a1, a2, -⟩ := T.a (n := 0) (by decide)
  obtain ⟨b1, b2, -⟩ := T.a (n := 1) (by decide)
  unfold RLA GDA RLB GDB
  rw [T.lq k (n := 0) (by decide), T.lq k (n := 1) (by decide)]
  exact ⟨a1.keep k (by decide), a2, b1.keep k (by decide), b2⟩
theorem LDm.k {h h' : aH} (g : LDm h) (k : KWm h h') (n : fI h' 38 = fI h 38) : LDm h' := fun j j0 j1 q => by
  rw [n] at j1
  rw [k 96 (by decide) (by decide) j j0 j1] at q
  rw [k 103 (by decide) (by decide) j j0 j1]
  exact g j j0 j1 q
theorem ret_ex {h h1 : aH} {c k : Int} {z : Nat} (g : TS h) (b : arI h1 70 = arI h 70 ∧ arI h1 71 = arI h 71) (n : fI h1 1 = fO h 1 2) (m : KMs 80 h h1) (e4 : fI h 4 = fO h 1 4) (c0 : 0 ≤ c) (c1 : c < fO h 1 4) (w : cz h c z) : retV (NMh h1 (gI h1 73 c)) (gI h1 73 c) (gI h1 72 c) k (cf h z k) := by
  obtain ⟨g1, g2, g3⟩ := g
  obtain ⟨y, wy, -, p⟩ := g1.2.1 c c0 c1
  have e := cz_u wy w
  subst e
  rw [NM_NX g3 b n, m 73 (by decide) (by decide) c c0 (by omega), m 72 (by decide) (by decide) c c0 (by omega), ← g3.2 c y c0 c1 w 1 (by decide), ← g3.2 c y c0 c1 w 0 (by decide)]
  exact ⟨cf h y, (p c1).1, rfl⟩
/-- the returns of a comet on both sides -/
def RTq (h h1 : aH) (c : Int) (z : Nat) : Prop := (∀ k t : Int, -60 ≤ k → k ≤ 60 → retV (NMh h1 (gI h1 73 c)) (gI h1 73 c) (gI h1 72 c) k t → t = cf h z k ∧ ((fO h z 8 ≤ k ∧ k ≤ fO h z 9) → 0 ≤ t) ∧ (¬ (fO h z 8 ≤ k ∧ k ≤ fO h z 9) → t = -1)) ∧ (∀ k : Int, retV (NMh h1 (gI h1 73 c)) (gI h1 73 c) (gI h1 72 c) k (cf h z k)) ∧ -60 ≤ fO h z 8 ∧ fO h z 9 ≤ 60
theorem NX_iff {ls : List (List (Int × Int) × List (Int × Int))} {h h1 : aH} {c1 c2 nW nW' : Int} {z o : Nat} (ea : BUc h h1 c1 z) (eb : BUc h h1 c2 o) (n : nW' = nW) (W : ∀ i : Int, 0 ≤ i → i < nW → gI h1 93 i = gI h 42 i ∧ gI h1 94 i = gI h 43 i ∧ gI h1 95 i = gI h 44 i) (R1 : RTq h h1 c1 z) (R2 : RTq h h1 c2 o) (c : Int) : CD2 (fO h z 8) 0 nW (fun k i c => CWd (gI h 42) (gI h 43) (gI h 44) (OAz ls h z o k) i c) (fO h z 9 + 1) 0 c ↔ CD2 0 (-60) 61 (fun i k c => ∃ t, (fun j t => retV (NMh h1 (gI h1 73 c1)) (gI h1 73 c1) (gI h1 72 c1) j t) k t ∧ 0 ≤ t ∧ (fun t c => CWd (gI h1 93) (gI h1 94) (gI h1 95) (fun p d => canP ls (gI h1 74 c1) (gI h1 76 c1) (gI h1 75 c1) (gI h1 77 c1) p t d ∧ (LRq (-60) 61 (fun j t => retV (NMh h1 (gI h1 73 c2)) (gI h1 73 c2) (gI h1 72 c2) j t) (fun t => canP ls (gI h1 74 c2) (gI h1 76 c2) (gI h1 75 c2) (gI h1 77 c2) p t d))) i c) t c) nW' (-60) c := by
  subst n
  obtain ⟨r1, x1, z1⟩ := R1
  obtain ⟨r2, x2, z2⟩ := R2
  have e2 : gI h1 74 c1 = fO h z 2 := ea 2 (by decide)
  have e3 : gI h1 75 c1 = fO h z 3 := ea 3 (by decide)
  have e4 : gI h1 76 c1 = fO h z 4 := ea 4 (by decide)
  have e5 : gI h1 77 c1 = fO h z 5 := ea 5 (by decide)
  have d2 : gI h1 74 c2 = fO h o 2 := eb 2 (by decide)
  have d3 : gI h1 75 c2 = fO h o 3 := eb 3 (by decide)
  have d4 : gI h1 76 c2 = fO h o 4 := eb 4 (by decide)
  have d5 : gI h1 77 c2 = fO h o 5 := eb 5 (by decide)
  rw [e2, e3, e4, e5, d2, d3, d4, d5]
  have sn : ∀ p d, SNz ls h o p d ↔ ¬ LRq (-60) 61 (fun j t => retV (NMh h1 (gI h1 73 c2)) (gI h1 73 c2) (gI h1 72 c2) j t) (fun t => canP ls (fO h o 2) (fO h o 4) (fO h o 3) (fO h o 5) p t d) := fun p d => by
    constructor
    · rintro ⟨j, jr, q⟩ m
      obtain ⟨t, r, k⟩ := m j (by omega) (by omega)
      obtain ⟨e, f, -⟩ := r2 j t (by omega) (by omega) r
      exact k ⟨f jr, by rw [e]; exact q⟩
    · intro m
      refine Classical.byContradiction fun s => m (fun j j0 j1 => ⟨cf h o j, x2 j, fun q => s ⟨j, ?_, q.2⟩⟩)
      refine Classical.byContradiction fun i => ?_
      have := (r2 j _ j0 (by omega) (x2 j)).2.2 i
      omega
  constructor
  · rintro (⟨k, i, hk, hi, q1, q2, q3⟩ | ⟨i, hi, -⟩)
    · obtain ⟨w1, w2, w3⟩ := W i hi.1 hi.2
      obtain ⟨u1, u2⟩ := q3
      refine Or.inl ⟨i, k, hi, ⟨by omega, by omega⟩, cf h z k, x1 k, (r1 k _ (by omega) (by omega) (x1 k)).2.1 ⟨hk.1, by omega⟩, by rw [w1]; exact q1, by rw [w2, w3]; exact q2, u1, ?_⟩
      exact Classical.byContradiction fun m => u2 ((sn _ _).mpr m)
    · omega
  · rintro (⟨i, k, hi, hk, t, r, t0, q1, q2, u1, u2⟩ | ⟨k, hk, -⟩)
    · obtain ⟨w1, w2, w3⟩ := W i hi.1 hi.2
      obtain ⟨e, -, f⟩ := r1 k t hk.1 (by omega) r
      have inn : fO h z 8 ≤ k ∧ k ≤ fO h z 9 := Classical.byContradiction fun m => by
        have := f m
        omega
      rw [w1] at q1
      rw [w2, w3] at q2
      rw [e] at u1
      exact Or.inl ⟨k, i, ⟨inn.1, by omega⟩, hi, q1, q2, u1, fun m => (sn _ _).mp m u2⟩
    · omega
def WAt (h : aH) : Prop := ∀ i : Int, 0 ≤ i → i < fO h 41 6 → gI h 42 i = gI h 93 i ∧ gI h 43 i = gI h 94 i ∧ gI h 44 i = gI h 95 i
theorem wv_un {W : List Nat} {h h' : aH} (hO : OK h) (u : un W h h') (w : ∀ a ∈ [42, 43, 44, 93, 94, 95], a ∉ W) : ∀ a ∈ [42, 43, 44, 93, 94, 95], arI h' a = arI h a := by
  have k : ∀ a : Nat, a ∈ [42, 43, 44, 93, 94, 95] → a < 114 → T0.getD a (999, 0) = (0, 10) → scA a = false → (0, 10) ∉ meM → arI h' a = arI h a := fun a h0 h1 h2 h3 h4 => arI_keep (a := a) (kd := 0) (n := 10) hO u h1 h2 (by decide) h3 h4 (w a h0)
  intro a ha
  rcases (show a = 42 ∨ a = 43 ∨ a = 44 ∨ a = 93 ∨ a = 94 ∨ a = 95 by simpa only [List.mem_cons, List.not_mem_nil, or_false] using ha) with rfl | rfl | rfl | rfl | rfl | rfl
  · exact k 42 (by decide) (by decide) rfl rfl (by decide)
  · exact k 43 (by decide) (by decide) rfl rfl (by decide)
  · exact k 44 (by decide) (by decide) rfl rfl (by decide)
  · exact k 93 (by decide) (by decide) rfl rfl (by decide)
  · exact k 94 (by decide) (by decide) rfl rfl (by decide)
  · exact k 95 (by decide) (by decide) rfl rfl (by decide)
theorem WAt.k {h h' : aH} (g : WAt h) (n : fO h' 41 6 = fO h 41 6) (e : ∀ a ∈ [42, 43, 44, 93, 94, 95], arI h' a = arI h a) : WAt h' := fun i i0 i1 => by
  rw [gI_e (e 42 (by decide)), gI_e (e 43 (by decide)), gI_e (e 44 (by decide)), gI_e (e 93 (by decide)), gI_e (e 94 (by decide)), gI_e (e 95 (by decide))]
  exact g i i0 (by omega)
theorem WAt.m {h h1 : aH} (g : WAt h) (e : ∀ a ∈ [42, 43, 44, 93, 94, 95], arI h1 a = arI h a) : ∀ i : Int, 0 ≤ i → i < fO h 41 6 → gI h1 93 i = gI h 42 i ∧ gI h1 94 i = gI h 43 i ∧ gI h1 95 i = gI h 44 i := fun i i0 i1 => by
  rw [gI_e (e 93 (by decide)), gI_e (e 94 (by decide)), gI_e (e 95 (by decide))]
  obtain ⟨a, b, c⟩ := g i i0 i1
  exact ⟨a.symm, b.symm, c.symm⟩
theorem WAt.one {h h1 h2 : aH} {a1 a2 a3 : Int32} {n m : Int} (g : WAt h) (hO : OK h) (hO1 : OK h1) (hn : n = fO h 41 6) (hm : m = n) (n0 : 0 ≤ n ∧ n ≤ 9) (n2 : fO h2 41 6 = n + 1) (c : arI h1 42 = (arI h 42).set n.toNat a1 ∧ arI h1 43 = (arI h 43).set n.toNat a2 ∧ arI h1 44 = (arI h 44).set n.toNat a3) (k : arI h1 93 = arI h 93 ∧ arI h1 94 = arI h 94 ∧ arI h1 95 = arI h 95) (d : arI h2 93 = (arI h1 93).set m.toNat a1 ∧ arI h2 94 = (arI h1 94).set m.toNat a2 ∧ arI h2 95 = (arI h1 95).set m.toNat a3) (e : arI h2 42 = arI h1 42 ∧ arI h2 43 = arI h1 43 ∧ arI h2 44 = arI h1 44) : WAt h2 := fun i i0 i1 => by
  subst hm hn
  have s1 := gI_sq (j := i) (am_l (a := 42) hO (by decide) rfl (by decide)) c.1 (by omega) i0
  have s2 := gI_sq (j := i) (am_l (a := 43) hO (by decide) rfl (by decide)) c.2.1 (by omega) i0
  have s3 := gI_sq (j := i) (am_l (a := 44) hO (by decide) rfl (by decide)) c.2.2 (by omega) i0
  have t1 := gI_sq (j := i) (am_l (a := 93) hO1 (by decide) rfl (by decide)) d.1 (by omega) i0
  have t2 := gI_sq (j := i) (am_l (a := 94) hO1 (by decide) rfl (by decide)) d.2.1 (by omega) i0
  have t3 := gI_sq (j := i) (am_l (a := 95) hO1 (by decide) rfl (by decide)) d.2.2 (by omega) i0
  rw [gI_e e.1, gI_e e.2.1, gI_e e.2.2]
  by_cases q : i = ((fO h 41 6).toNat : Int)
  · rw [s1.1 q, s2.1 q, s3.1 q, t1.1 q, t2.1 q, t3.1 q]
    exact ⟨rfl, rfl, rfl⟩
  · rw [s1.2 q, s2.2 q, s3.2 q, t1.2 q, t2.2 q, t3.2 q, gI_e k.1, gI_e k.2.1, gI_e k.2.2]
    exact g i i0 (by omega)
theorem WAt.r {h h1 : aH} (g : WAt h) (hO : OK h) (k : arI h1 93 = arI h 93 ∧ arI h1 94 = arI h 94 ∧ arI h1 95 = arI h 95) (n : fI h1 34 = fO h 41 6) : WRm h1 := fun i i0 i1 => by
  rw [n] at i1
  obtain ⟨a, b, c⟩ := g i i0 i1
  rw [gI_e k.1, gI_e k.2.1, gI_e k.2.2, ← a, ← b, ← c]
  exact ⟨gI_rg (a := 42) (n := 10) hO (by decide) rfl (by decide) i, gI_rg (a := 43) (n := 10) hO (by decide) rfl (by decide) i, gI_rg (a := 44) (n := 10) hO (by decide) rfl (by decide) i⟩
end SG9
