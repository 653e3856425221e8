/-! JUDGE AND BEST: sgj -/
section WSGJ
/-! JUDGE AND BEST: what ties both sides -/
theorem cm_f0 {h : aH} {z : Nat} (hO : OK h) (t : tg h z = (102, 14)) : (-60 ≤ fO h z 8 ∧ fO h z 8 ≤ 0) ∧ 0 ≤ fO h z 9 ∧ fO h z 9 ≤ 60 := by
  obtain ⟨-, p, s, nd, rc, wy, b, pa, bo, f, l, q1, q2, sg, q3, c, k1, k2, k3, k4, k5, k6, k7, k8⟩ := hO.comet t
  rw [fO_of (k := 8) c rfl, fO_of (k := 9) c rfl]
  omega
/-- a comet that was there has the same returns, also where others have come -/
theorem CF_old {h h' : aH} (g : SKc h) (g' : SKc h') (K : KCc 7 h h') (a : arI h' 2 = arI h 2 ∧ arI h' 3 = arI h 3) (n2 : fO h' 1 2 = fO h 1 2) (n4 : fO h 1 4 ≤ fO h' 1 4) (hO : OK h) (hO' : OK h') {c : Int} {z : Nat} (c0 : 0 ≤ c) (c1 : c < fO h 1 4) (w : cz h c z) : cz h' c z ∧ (∀ q ∈ [2, 3, 4, 5, 8, 9], fO h' z q = fO h z q) ∧ ∀ k : Int, -60 ≤ k → k ≤ 60 → cf h' z k = cf h z k := by
  obtain ⟨w', e⟩ := K c z c0 c1 w
  obtain ⟨z1, w1, -, p1⟩ := g.2.1 c c0 c1
  obtain ⟨z2, w2, -, p2⟩ := g'.2.1 c c0 (by omega)
  rw [cz_u w1 w] at p1
  rw [cz_u w2 w'] at p2
  have r := p1 c1
  have r' := p2 (by omega)
  have nx : ∀ sp, NXh h' sp = NXh h sp := fun sp => by
    unfold NXh
    rw [n2, (funext (gI_e a.1) : gI h' 2 = gI h 2), (funext (gI_e a.2) : gI h' 3 = gI h 3)]
  rw [nx, fO_eA (e 0 (by decide)), fO_eA (e 1 (by decide))] at r'
  have ce : ∀ k : Int, -60 ≤ k → k ≤ 60 → cf h' z k = cf h z k := fun k k0 k1 => (isRet_u r.1 r'.1 k k0 k1).symm
  have f0 := cm_f0 hO (cz_ok hO w).2
  have f1 := cm_f0 hO' (cz_ok hO' w').2
  have inn : ∀ (x : aH) (k : Int), 0 ≤ cf x z k → fO x z 8 ≤ k ∧ k ≤ fO x z 9 := fun x k q => by
    refine Classical.byContradiction fun n => ?_
    unfold cf at q
    rw [if_neg n] at q
    omega
  have a1 := inn h' (fO h z 8) (by rw [ce _ (by omega) (by omega)]; exact (r.2 _ (by omega) (by omega)).1)
  have a2 := inn h' (fO h z 9) (by rw [ce _ (by omega) (by omega)]; exact (r.2 _ (by omega) (by omega)).1)
  have a3 := inn h (fO h' z 8) (by rw [← ce _ (by omega) (by omega)]; exact (r'.2 _ (by omega) (by omega)).1)
  have a4 := inn h (fO h' z 9) (by rw [← ce _ (by omega) (by omega)]; exact (r'.2 _ (by omega) (by omega)).1)
  refine ⟨w', fun q hq => ?_, ce⟩
  rcases (show q = 2 ∨ q = 3 ∨ q = 4 ∨ q = 5 ∨ q = 8 ∨ q = 9 by simpa only [List.mem_cons, List.not_mem_nil, or_false] using hq) with rfl | rfl | rfl | rfl | rfl | rfl
  · exact fO_eA (e 2 (by decide))
  · exact fO_eA (e 3 (by decide))
  · exact fO_eA (e 4 (by decide))
  · exact fO_eA (e 5 (by decide))
  · omega
  · omega
theorem WPs.cm {V : List Nat} {h h' : aH} (hO : OK h) (hO' : OK h') (u : un V h h') (v : ∀ q ∈ 45 :: 46 :: wgW, q ∉ V) (g : SKc h) (g' : SKc h') (K : KCc 7 h h') (a : arI h' 2 = arI h 2 ∧ arI h' 3 = arI h 3) (n2 : fO h' 1 2 = fO h 1 2) (n4 : fO h 1 4 ≤ fO h' 1 4) : WPs h h' := fun _ _ H => (H.d hO u ⟨v _ (by decide), v _ (by decide)⟩).g n4 (fun i z i0 i1 w => by
  obtain ⟨w', e, c⟩ := CF_old g g' K a n2 n4 hO hO' i0 i1 w
  exact ⟨w', SMz.k hO hO' u e c (cm_fl hO (cz_ok hO w).2) (fun q hq => v q (List.mem_cons_of_mem _ (List.mem_cons_of_mem _ hq)))⟩)
theorem WT.nb {h : aH} (T : WT h) : NBw h := fun i z i0 i1 w => by
  obtain ⟨z', w', p0, -⟩ := T i i0 i1
  obtain rfl := wz_u w w'
  exact p0
/-- a root fits some return: both sides -/
theorem JG_rt {ls l1 : List (List (Int × Int) × List (Int × Int))} {h h1 : aH} {j c : Int} {w z : Nat} (bw : BUw h h1 j w) (bc : BUc h h1 c z) (ww : wz h j w) (jn : j < fO h 15 1) (R : RTq h h1 c z) : RRm ls l1 h1 (LL h1) j c ↔ RFk ls l1 h z (fO h z 9 + 1) j := by
  have ek := bw.2.2.2.1
  obtain ⟨r1, x1, z1⟩ := R
  unfold RRm FCm RFk RF1
  rw [ek]
  constructor
  · rintro ⟨a, q⟩
    refine ⟨jn, Classical.byContradiction fun s => q (fun k k0 k1 => ⟨cf h z k, x1 k, fun m => s ⟨k, ?_, w, ww, a, (FW_iff bw bc).mp m.2⟩⟩)⟩
    have i : fO h z 8 ≤ k ∧ k ≤ fO h z 9 := Classical.byContradiction fun i => by
      have := (r1 k _ k0 (by omega) (x1 k)).2.2 i
      omega
    exact ⟨i.1, by omega⟩
  · rintro ⟨-, k, r, w', ww', a, f⟩
    obtain rfl := wz_u ww ww'
    refine ⟨a, fun m => ?_⟩
    obtain ⟨t, r', n⟩ := m k (by omega) (by omega)
    obtain ⟨e, g, -⟩ := r1 k t (by omega) (by omega) r'
    exact n ⟨g ⟨r.1, by omega⟩, by rw [e]; exact (FW_iff bw bc).mpr f⟩
theorem JG_sw {ls : List (List (Int × Int) × List (Int × Int))} {h h1 : aH} {c k : Int} {z : Nat} (bc : BUc h h1 c z) (nW : fI h1 34 = fO h 41 6) (W : ∀ i : Int, 0 ≤ i → i < fO h 41 6 → gI h1 93 i = gI h 42 i ∧ gI h1 94 i = gI h 43 i ∧ gI h1 95 i = gI h 44 i) : SWm ls h1 c (cf h z k) ↔ SWz ls h z k := by
  have e2 : gI h1 74 c = fO h z 2 := bc 2 (by decide)
  have e3 : gI h1 75 c = fO h z 3 := bc 3 (by decide)
  have e4 : gI h1 76 c = fO h z 4 := bc 4 (by decide)
  have e5 : gI h1 77 c = fO h z 5 := bc 5 (by decide)
  unfold SWm SWz SWn SWi
  rw [nW, e2, e3, e4, e5]
  constructor
  · rintro ⟨i, r, q⟩
    obtain ⟨w1, w2, w3⟩ := W i r.1 r.2
    rw [w1, w2, w3] at q
    exact ⟨i, r, q⟩
  · rintro ⟨i, r, q⟩
    obtain ⟨w1, w2, w3⟩ := W i r.1 r.2
    refine ⟨i, r, ?_⟩
    rw [w1, w2, w3]
    exact q
theorem JG_ms {ls l1 : List (List (Int × Int) × List (Int × Int))} {h h1 : aH} {c : Int} {z : Nat} (bc : BUc h h1 c z) (nW : fI h1 34 = fO h 41 6) (W : ∀ i : Int, 0 ≤ i → i < fO h 41 6 → gI h1 93 i = gI h 42 i ∧ gI h1 94 i = gI h 43 i ∧ gI h1 95 i = gI h 44 i) (n : fI h1 38 = fO h 15 1) (bw : ∀ j : Int, 0 ≤ j → j < fO h 15 1 → ∃ w, wz h j w ∧ BUw h h1 j w) (R : RTq h h1 c z) (f0 : fO h z 8 ≤ 0 ∧ 0 ≤ fO h z 9) : cq (MSm ls l1 h1 (LL h1) c) (-60) 61 = cq (MSz ls l1 h z) (fO h z 8) (fO h z 9 + 1) := by
  obtain ⟨r1, x1, z1⟩ := R
  have k : ∀ k : Int, -60 ≤ k → k < 61 → (MSm ls l1 h1 (LL h1) c k ↔ (fO h z 8 ≤ k ∧ k ≤ fO h z 9) ∧ MSz ls l1 h z k) := fun k k0 k1 => by
    have nf : ¬ TDm ls l1 h1 (LL h1) c (cf h z k) ↔ NFk ls l1 h z k (fO h 15 1) := by
      unfold TDm NFk
      rw [n]
      constructor
      · intro q j w j0 j1 p f
        obtain ⟨w', p', b⟩ := bw j j0 j1
        obtain rfl := wz_u p p'
        exact q ⟨j, ⟨j0, j1⟩, (FW_iff b bc).mpr f⟩
      · rintro q ⟨j, r, f⟩
        obtain ⟨w', p', b⟩ := bw j r.1 r.2
        exact q j w' r.1 r.2 p' ((FW_iff b bc).mp f)
    unfold MSm MSz
    constructor
    · rintro ⟨t, r, t0, s, d⟩
      obtain ⟨e, -, f⟩ := r1 k t k0 (by omega) r
      have i : fO h z 8 ≤ k ∧ k ≤ fO h z 9 := Classical.byContradiction fun m => by
        have := f m
        omega
      rw [e] at s d
      exact ⟨i, (JG_sw bc nW W).mp s, nf.mp d⟩
    · rintro ⟨i, s, d⟩
      exact ⟨cf h z k, x1 k, (r1 k _ k0 (by omega) (x1 k)).2.1 i, (JG_sw bc nW W).mpr s, nf.mpr d⟩
  have e : cq (MSm ls l1 h1 (LL h1) c) (-60) 61 = cq (fun k => (fO h z 8 ≤ k ∧ k ≤ fO h z 9) ∧ MSz ls l1 h z k) (-60) 61 := cq_c k
  rw [e, cq_ap (lo := -60) (a := fO h z 8) (b := 61) (by omega) (by omega), cq_ap (lo := fO h z 8) (a := fO h z 9 + 1) (b := 61) (by omega) (by omega), cq_0 (lo := -60) (m := fO h z 8) (fun d d0 d1 q => by
    have := q.1.1
    omega), cq_0 (lo := fO h z 9 + 1) (m := 61) (fun d d0 d1 q => by
    have := q.1.2
    omega), Int.zero_add, Int.add_zero]
  exact cq_c (fun d d0 d1 => ⟨And.right, fun q => ⟨⟨d0, by omega⟩, q⟩⟩)
/-- both sides reckon alike -/
def JGq (ls l1 : List (List (Int × Int) × List (Int × Int))) (h h1 : aH) : Prop := fI h1 38 = fO h 15 1 ∧ ∀ c : Int, 0 ≤ c → c < fO h 1 4 → cq (MSm ls l1 h1 (LL h1) c) (-60) 61 = MCw ls l1 h c ∧ ∀ j : Int, 0 ≤ j → j < fO h 15 1 → (RRm ls l1 h1 (LL h1) j c ↔ RCw ls l1 h j c)
theorem JGq.v {ls l1 : List (List (Int × Int) × List (Int × Int))} {h h1 : aH} {S : Int32} (J : JGq ls l1 h h1) (hb : ∀ c : Int, 0 ≤ c → c < 12 → bt S c = 1 → c < fO h 1 4) : WVx (RRm ls l1 h1 (LL h1)) (fun c => cq (MSm ls l1 h1 (LL h1) c) (-60) 61) (fI h1 38) S = WVx (RCw ls l1 h) (MCw ls l1 h) (fO h 15 1) S := by
  rw [J.1]
  exact WVx_c (fun j c j0 j1 c0 c1 s => (J.2 c c0 (hb c c0 c1 s)).2 j j0 j1) (fun c hc s => (J.2 (c : Int) (by omega) (hb (c : Int) (by omega) (by omega) s)).1)
theorem JGq.b {ls l1 : List (List (Int × Int) × List (Int × Int))} {h h1 : aH} {n : Int} (J : JGq ls l1 h h1) (hn : 0 ≤ n ∧ n ≤ 6) (l : n ≤ fO h 1 4) : bsF (VWx ls l1 h1 (LL h1)) (p2 n - 1).toNat = bsF (VZx ls l1 h) (p2 n - 1).toNat := bsF_c _ (fun k k0 k1 => by
  have r := p2_r (k := n) (by omega)
  have e := i32_k (k := k) (by omega)
  unfold VWx VZx
  exact J.v (fun c c0 c1 s => by
    have := bt_lt (k := n) ⟨by omega, by omega⟩ ⟨c0, by omega⟩ s
    omega))
/-- the weights, behind each call -/
def WTV (h : aH) : Prop := WTr (LQ h 0) (LQ h 1) h h

end WSGJ
