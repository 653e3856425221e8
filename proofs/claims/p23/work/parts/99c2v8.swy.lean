/-! JUDGE AND BEST: swy -/
section WSWY
/-! THE WORTH OF SETS: what the class keeps of the comets it has weighed -/
theorem bi_sw {b : Bool} {P : Prop} (f : b = true → P) (g : b = false → ¬ P) : ((bi b).toInt = 1 ↔ P) ∧ 0 ≤ (bi b).toInt ∧ (bi b).toInt ≤ 1 := by
  cases b with
  | true => exact ⟨⟨fun _ => f rfl, fun _ => by decide⟩, by decide, by decide⟩
  | false => exact ⟨⟨fun q => absurd q (by decide), fun p => absurd p (g rfl)⟩, by decide, by decide⟩
theorem cq_0 {P : Int → Prop} {lo m : Int} (n : ∀ d, lo ≤ d → d < m → ¬ P d) : cq P lo m = 0 := by
  rcases Int.lt_or_le lo m with l | l
  · have r := cq_r (P := P) (lo := lo) (m := m) (by omega)
    have k := cq_lt (P := P) (lo := lo) (a := lo) (b := m) (Int.le_refl lo) (by omega)
    rw [cq_z (Int.le_refl lo)] at k
    by_cases q : 0 < cq P lo m
    · obtain ⟨d, d0, d1, p⟩ := k.mp q
      exact absurd p (n d d0 d1)
    · omega
  · exact cq_z l
/-- what a heap says that no call of this kind changes -/
def wgW : List Nat := [16, 42, 43, 44, 2501, 5106, 22001, 22002, 22004, 22008, 22009, 22010, 22011, 22012]
def wgK : List Nat := [4, 221, 1104, 21202, 21203, 21204, 21205, 21208, 21209, 21210] ++ wgW
theorem FWz.k {ls l1 : List (List (Int × Int) × List (Int × Int))} {V : List Nat} {h h' : aH} {w z : Nat} {t : Int} (hO : OK h) (g : un V h h') (tw : 114 ≤ w ∧ tg h w = (110, 13)) (e : ∀ q ∈ [2, 3, 4, 5], fO h' z q = fO h z q) (v : ∀ q ∈ wgW, q ∉ V) : FWz ls l1 h' w z t ↔ FWz ls l1 h w z t := by
  have rr := rtz_ok hO tw (rtz_ro hO tw.2)
  unfold FWz FCz
  rw [ro_un hO g tw (v _ (by decide)), fO_wu hO g rr (k := 10) (by decide) (v _ (by decide)), fO_wu hO g rr (k := 4) (by decide) (v _ (by decide)), VC_un hO g rr ⟨v _ (by decide), v _ (by decide)⟩, fO_wu hO g tw (k := 1) (by decide) (v _ (by decide)), fO_wu hO g tw (k := 2) (by decide) (v _ (by decide)), fO_wu hO g tw (k := 8) (by decide) (v _ (by decide)), e 2 (by decide), e 3 (by decide), e 4 (by decide), e 5 (by decide)]
theorem SWz.k {ls : List (List (Int × Int) × List (Int × Int))} {V : List Nat} {h h' : aH} {z : Nat} {k : Int} (hO : OK h) (hO' : OK h') (g : un V h h') (e : ∀ q ∈ [2, 3, 4, 5], fO h' z q = fO h z q) (c : cf h' z k = cf h z k) (v : ∀ q ∈ wgW, q ∉ V) : SWz ls h' z k ↔ SWz ls h z k := by
  have m : ∀ a : Nat, a ∈ [42, 43, 44] → a ∉ V := fun a ha => v a (by revert ha; revert a; decide)
  have a : ∀ a : Nat, a ∈ [42, 43, 44] → a < 114 → T0.getD a (999, 0) = (0, 10) → scA a = false → (0, 10) ∉ meM → gI h' a = gI h a := fun a h0 h1 h2 h3 h4 => gI_fk (kd := 0) (n := 10) hO g h1 h2 (by decide) h3 h4 (m a h0)
  unfold SWz SWi
  rw [fO_keep (a := 41) (ci := 7) (n := 15) (k := 6) hO hO' g (by decide) rfl (by decide) rfl (v _ (by decide)), a 42 (by decide) (by decide) rfl rfl (by decide), a 43 (by decide) (by decide) rfl rfl (by decide), a 44 (by decide) (by decide) rfl rfl (by decide), c, e 2 (by decide), e 3 (by decide), e 4 (by decide), e 5 (by decide)]
/-- a root that fits a return; some return below k; so far -/
def RF1 (ls l1 : List (List (Int × Int) × List (Int × Int))) (h : aH) (z : Nat) (k j : Int) : Prop := ∃ w, wz h j w ∧ fO h w 1 ≠ 3 ∧ FWz ls l1 h w z (cf h z k)
def RFk (ls l1 : List (List (Int × Int) × List (Int × Int))) (h : aH) (z : Nat) (k j : Int) : Prop := j < fO h 15 1 ∧ ∃ i : Int, (fO h z 8 ≤ i ∧ i < k) ∧ RF1 ls l1 h z i j
def RFp (ls l1 : List (List (Int × Int) × List (Int × Int))) (h : aH) (z : Nat) (k n j : Int) : Prop := RFk ls l1 h z k j ∨ (j < n ∧ RF1 ls l1 h z k j)
/-- no word so far fits a return; one that is missed -/
def NFk (ls l1 : List (List (Int × Int) × List (Int × Int))) (h : aH) (z : Nat) (k n : Int) : Prop := ∀ (j : Int) (w : Nat), 0 ≤ j → j < n → wz h j w → ¬ FWz ls l1 h w z (cf h z k)
def MSz (ls l1 : List (List (Int × Int) × List (Int × Int))) (h : aH) (z : Nat) (k : Int) : Prop := SWz ls h z k ∧ NFk ls l1 h z k (fO h 15 1)
theorem RF1.k {ls l1 : List (List (Int × Int) × List (Int × Int))} {V : List Nat} {h h' : aH} {z : Nat} {k j : Int} (hO : OK h) (g : un V h h') (e : ∀ q ∈ [2, 3, 4, 5], fO h' z q = fO h z q) (c : cf h' z k = cf h z k) (v : ∀ q ∈ wgW, q ∉ V) : RF1 ls l1 h' z k j ↔ RF1 ls l1 h z k j := by
  have a := arR_u hO g (v 16 (by decide))
  unfold RF1
  rw [c]
  constructor
  · rintro ⟨w, p, n, f⟩
    have p1 := wz_c a p
    have t := wz_ok hO p1
    rw [fO_wu hO g t (k := 1) (by decide) (v _ (by decide))] at n
    exact ⟨w, p1, n, (FWz.k hO g t e v).mp f⟩
  · rintro ⟨w, p, n, f⟩
    have t := wz_ok hO p
    rw [← fO_wu hO g t (k := 1) (by decide) (v _ (by decide))] at n
    exact ⟨w, wz_c a.symm p, n, (FWz.k hO g t e v).mpr f⟩
theorem NFk.k {ls l1 : List (List (Int × Int) × List (Int × Int))} {V : List Nat} {h h' : aH} {z : Nat} {k n : Int} (hO : OK h) (g : un V h h') (e : ∀ q ∈ [2, 3, 4, 5], fO h' z q = fO h z q) (c : cf h' z k = cf h z k) (v : ∀ q ∈ wgW, q ∉ V) : NFk ls l1 h' z k n ↔ NFk ls l1 h z k n := by
  have a := arR_u hO g (v 16 (by decide))
  unfold NFk
  rw [c]
  constructor
  · intro H j w j0 j1 p f
    exact H j w j0 j1 (wz_c a.symm p) ((FWz.k hO g (wz_ok hO p) e v).mpr f)
  · intro H j w j0 j1 p f
    have p1 := wz_c a p
    exact H j w j0 j1 p1 ((FWz.k hO g (wz_ok hO p1) e v).mp f)
/-- what is told of one comet is the same on both heaps -/
def SMz (ls l1 : List (List (Int × Int) × List (Int × Int))) (b b' : aH) (z : Nat) : Prop := fO b' z 8 = fO b z 8 ∧ fO b' z 9 = fO b z 9 ∧ fO b' 15 1 = fO b 15 1 ∧ ∀ k : Int, fO b z 8 ≤ k → k ≤ fO b z 9 → (MSz ls l1 b' z k ↔ MSz ls l1 b z k) ∧ ∀ j : Int, RF1 ls l1 b' z k j ↔ RF1 ls l1 b z k j
theorem SMz.sy {ls l1 : List (List (Int × Int) × List (Int × Int))} {b b' : aH} {z : Nat} (S : SMz ls l1 b b' z) : SMz ls l1 b' b z := by
  obtain ⟨e8, e9, en, f⟩ := S
  refine ⟨e8.symm, e9.symm, en.symm, fun k k0 k1 => ?_⟩
  have q := f k (by omega) (by omega)
  exact ⟨q.1.symm, fun j => (q.2 j).symm⟩
theorem SMz.k {ls l1 : List (List (Int × Int) × List (Int × Int))} {V : List Nat} {h h' : aH} {z : Nat} (hO : OK h) (hO' : OK h') (g : un V h h') (e : ∀ q ∈ [2, 3, 4, 5, 8, 9], fO h' z q = fO h z q) (c : ∀ k : Int, -60 ≤ k → k ≤ 60 → cf h' z k = cf h z k) (r : -60 ≤ fO h z 8 ∧ fO h z 9 ≤ 60) (v : ∀ q ∈ wgW, q ∉ V) : SMz ls l1 h h' z := by
  have e4 : ∀ q ∈ [2, 3, 4, 5], fO h' z q = fO h z q := fun q hq => e q (by revert hq; revert q; decide)
  have n := n15_un hO hO' g (v 2501 (by decide))
  refine ⟨e 8 (by decide), e 9 (by decide), n, fun k k0 k1 => ?_⟩
  have ck := c k (by omega) (by omega)
  refine ⟨?_, fun j => RF1.k hO g e4 ck v⟩
  unfold MSz
  rw [n, SWz.k hO hO' g e4 ck v, NFk.k hO g e4 ck v]
theorem SMz.un {ls l1 : List (List (Int × Int) × List (Int × Int))} {V : List Nat} {h h' : aH} {z : Nat} (hO : OK h) (hO' : OK h') (g : un V h h') (t : 114 ≤ z ∧ tg h z = (102, 14)) (v : ∀ q ∈ wgK, q ∉ V) : SMz ls l1 h h' z := by
  have f : ∀ q : Nat, q < 14 → 21200 + q ∈ wgK → fO h' z q = fO h z q := fun q hq m => fO_eA (fC_un hO g t.1 t.2 hq (v _ m))
  refine SMz.k hO hO' g (fun q hq => ?_) (fun k _ _ => cf_un hO g t.1 t.2 (fun q hq => v q (by revert hq; revert q; decide))) (cm_fl hO t.2) (fun q hq => v q (by revert hq; revert q; decide))
  exact f q (by revert hq; revert q; decide) (by revert hq; revert q; decide)
/-- the weight of one comet: nothing yet, or all of it -/
def WZi (h : aH) (i : Int) : Prop := gI h 46 i = -1 ∧ ∀ j : Int, 0 ≤ j → j < 192 → ¬ BTz h j i
def WZa (h : aH) : Prop := ∀ i : Int, 0 ≤ i → i < 12 → WZi h i
def WGi (ls l1 : List (List (Int × Int) × List (Int × Int))) (b h : aH) (i : Int) (z : Nat) : Prop := gI h 46 i = cq (MSz ls l1 b z) (fO b z 8) (fO b z 9 + 1) ∧ ∀ j : Int, 0 ≤ j → j < 192 → (BTz h j i ↔ RFk ls l1 b z (fO b z 9 + 1) j)
def WTr (ls l1 : List (List (Int × Int) × List (Int × Int))) (b h : aH) : Prop := ∀ i : Int, 0 ≤ i → i < 12 → WZi h i ∨ (i < fO b 1 4 ∧ ∃ z, cz b i z ∧ WGi ls l1 b h i z)
theorem BTz.e {h h' : aH} (e : arJ h' 45 = arJ h 45) {j i : Int} : BTz h' j i ↔ BTz h j i := by
  unfold BTz
  rw [gL_e e]
theorem WGi.x {ls l1 : List (List (Int × Int) × List (Int × Int))} {b b' h : aH} {i : Int} {z : Nat} (H : WGi ls l1 b h i z) (S : SMz ls l1 b b' z) : WGi ls l1 b' h i z := by
  obtain ⟨e8, e9, en, f⟩ := S
  refine ⟨?_, fun j j0 j1 => (H.2 j j0 j1).trans ?_⟩
  · rw [H.1, e8, e9]
    exact (cq_c (fun d d0 d1 => (f d d0 (by omega)).1)).symm
  · unfold RFk
    rw [e8, e9, en]
    exact ⟨fun ⟨n, k, r, q⟩ => ⟨n, k, r, ((f k r.1 (by omega)).2 j).mpr q⟩, fun ⟨n, k, r, q⟩ => ⟨n, k, r, ((f k r.1 (by omega)).2 j).mp q⟩⟩
theorem WTr.g {ls l1 : List (List (Int × Int) × List (Int × Int))} {b b' h : aH} (H : WTr ls l1 b h) (n : fO b 1 4 ≤ fO b' 1 4) (S : ∀ (i : Int) (z : Nat), 0 ≤ i → i < fO b 1 4 → cz b i z → cz b' i z ∧ SMz ls l1 b b' z) : WTr ls l1 b' h := fun i i0 i1 => by
  rcases H i i0 i1 with q | ⟨l, z, w, q⟩
  · exact Or.inl q
  · obtain ⟨w', s⟩ := S i z i0 l w
    exact Or.inr ⟨by omega, z, w', q.x s⟩
theorem n14_un {W : List Nat} {h h' : aH} (hO : OK h) (hO' : OK h') (g : un W h h') (w2 : 1104 ∉ W) : fO h' 1 4 = fO h 1 4 := fO_keep (a := 1) (ci := 6) (n := 5) (k := 4) hO hO' g (by decide) rfl (by decide) rfl w2
theorem WTr.b {ls l1 : List (List (Int × Int) × List (Int × Int))} {V : List Nat} {b b' h : aH} (H : WTr ls l1 b h) (hO : OK b) (hO' : OK b') (g : un V b b') (v : ∀ q ∈ wgK, q ∉ V) : WTr ls l1 b' h := H.g (Int.le_of_eq (n14_un hO hO' g (v _ (by decide))).symm) (fun _ z _ _ w => ⟨cz_c (arR_u4 hO g (v _ (by decide))).symm w, SMz.un hO hO' g (cz_ok hO w) v⟩)
theorem WTr.c {ls l1 : List (List (Int × Int) × List (Int × Int))} {V : List Nat} {b b' h : aH} (H : WTr ls l1 b' h) (hO : OK b) (hO' : OK b') (g : un V b b') (v : ∀ q ∈ wgK, q ∉ V) : WTr ls l1 b h := H.g (Int.le_of_eq (n14_un hO hO' g (v _ (by decide)))) (fun _ z _ _ w => by
  have w1 := cz_c (arR_u4 hO g (v _ (by decide))) w
  exact ⟨w1, (SMz.un hO hO' g (cz_ok hO w1) v).sy⟩)
theorem WZi.e {h h' : aH} {i : Int} (H : WZi h i) (e6 : gI h' 46 i = gI h 46 i) (e5 : ∀ j : Int, 0 ≤ j → j < 192 → (BTz h' j i ↔ BTz h j i)) : WZi h' i := ⟨e6.trans H.1, fun j j0 j1 q => H.2 j j0 j1 ((e5 j j0 j1).mp q)⟩
theorem WGi.e {ls l1 : List (List (Int × Int) × List (Int × Int))} {b h h' : aH} {i : Int} {z : Nat} (H : WGi ls l1 b h i z) (e6 : gI h' 46 i = gI h 46 i) (e5 : ∀ j : Int, 0 ≤ j → j < 192 → (BTz h' j i ↔ BTz h j i)) : WGi ls l1 b h' i z := ⟨e6.trans H.1, fun j j0 j1 => (e5 j j0 j1).trans (H.2 j j0 j1)⟩
theorem WTr.d {ls l1 : List (List (Int × Int) × List (Int × Int))} {V : List Nat} {b h h' : aH} (H : WTr ls l1 b h) (hO : OK h) (g : un V h h') (v : 45 ∉ V ∧ 46 ∉ V) : WTr ls l1 b h' := fun i i0 i1 => by
  have e6 : gI h' 46 i = gI h 46 i := gI_keep (a := 46) (kd := 0) (n := 12) hO g i (by decide) rfl (by decide) rfl (by decide) v.2
  have e5 : ∀ j : Int, 0 ≤ j → j < 192 → (BTz h' j i ↔ BTz h j i) := fun j _ _ => BTz.e (arJ_keep (n := 36) hO g (by decide) rfl rfl (by decide) v.1)
  rcases H i i0 i1 with q | ⟨l, z, w, q⟩
  · exact Or.inl (q.e e6 e5)
  · exact Or.inr ⟨l, z, w, q.e e6 e5⟩
theorem WZa.un {V : List Nat} {h h' : aH} (H : WZa h) (hO : OK h) (g : un V h h') (v : 45 ∉ V ∧ 46 ∉ V) : WZa h' := fun i i0 i1 => (H i i0 i1).e (gI_keep (a := 46) (kd := 0) (n := 12) hO g i (by decide) rfl (by decide) rfl (by decide) v.2) (fun j _ _ => BTz.e (arJ_keep (n := 36) hO g (by decide) rfl rfl (by decide) v.1))
theorem WZa.t {ls l1 : List (List (Int × Int) × List (Int × Int))} {b h : aH} (H : WZa h) : WTr ls l1 b h := fun i i0 i1 => Or.inl (H i i0 i1)
/-- a step that keeps the weights right -/
def WPs (h h' : aH) : Prop := ∀ ls l1 : List (List (Int × Int) × List (Int × Int)), WTr ls l1 h h → WTr ls l1 h' h'
theorem WPs.rf {h : aH} : WPs h h := fun _ _ H => H
theorem WPs.tr {a b c : aH} (g : WPs a b) (k : WPs b c) : WPs a c := fun ls l1 H => k ls l1 (g ls l1 H)
theorem WPs.z {h h' : aH} (H : WZa h') : WPs h h' := fun _ _ _ => H.t
theorem WPs.k {V : List Nat} {h h' : aH} (hO : OK h) (hO' : OK h') (g : un V h h') (v : ∀ q ∈ 45 :: 46 :: wgK, q ∉ V) : WPs h h' := fun _ _ H => (H.d hO g ⟨v _ (by decide), v _ (by decide)⟩).b hO hO' g (fun q hq => v q (List.mem_cons_of_mem _ (List.mem_cons_of_mem _ hq)))
/-- all is forgotten -/
theorem WZa.of {h h1 h2 : aH} (w : wJ h h1 45 (List.replicate 36 0)) (w2 : wI h1 h2 46 (List.replicate 12 (-1))) : WZa h2 := fun i i0 i1 => by
  constructor
  · rw [gI_rep w2.1 i0 (by omega)]
    decide
  · intro j j0 j1 q
    unfold BTz gL at q
    rw [w2.oJ (b := 45) (by decide), w.1, List.getD_eq_getElem?_getD, List.getElem?_replicate_of_lt (by omega)] at q
    exact tb_0 q
/-- a bit is set -/
theorem BTz.set {h h' : aH} {J : Int32} {X old b : Int64} {i j : Int} (hO : OK h) (w : wJ h h' 45 ((arJ h 45).set J.toInt.toNat X)) (i0 : 0 ≤ i ∧ i < 12) (j0 : 0 ≤ j ∧ j < 192) (eJ : J.toInt = 3 * i + j / 64) (eo : gL h 45 J.toInt = old) (ex : old ||| b = X) (eb : b.toBitVec = BitVec.twoPow 64 (j % 64).toNat) : ∀ j' i' : Int, 0 ≤ i' → i' < 12 → 0 ≤ j' → j' < 192 → (BTz h' j' i' ↔ BTz h j' i' ∨ (i' = i ∧ j' = j)) := fun j' i' a0 a1 b0 b1 => by
  obtain ⟨xs, hc, hn⟩ := hO.lon (hO.fix 45 (by decide) rfl)
  have hl : (arJ h 45).length = 36 := by
    rw [arJ_of hc]
    exact hn
  unfold BTz
  by_cases q : 3 * i' + j' / 64 = J.toInt
  · have e : gL h' 45 (3 * i' + j' / 64) = X := by
      rw [q]
      unfold gL
      rw [w.1, List.getD_eq_getElem?_getD, List.getElem?_set_self (by omega)]
      rfl
    rw [e, q, eo, ← ex, tb_or eb ⟨by omega, by omega⟩ ⟨by omega, by omega⟩]
    constructor
    · rintro (u | u)
      · exact Or.inl u
      · exact Or.inr ⟨by omega, by omega⟩
    · rintro (u | u)
      · exact Or.inl u
      · exact Or.inr (by omega)
  · have e : gL h' 45 (3 * i' + j' / 64) = gL h 45 (3 * i' + j' / 64) := by
      unfold gL
      rw [w.1, List.getD_eq_getElem?_getD, List.getElem?_set_ne (by omega), ← List.getD_eq_getElem?_getD]
    rw [e]
    exact ⟨Or.inl, fun u => u.elim id (fun u => by omega)⟩
/-- the others' weights stay -/
def WKo (b h : aH) (i : Int) : Prop := ∀ c : Int, 0 ≤ c → c < 12 → c ≠ i → gI h 46 c = gI b 46 c ∧ ∀ j : Int, 0 ≤ j → j < 192 → (BTz h j c ↔ BTz b j c)
theorem WKo.rf {h : aH} {i : Int} : WKo h h i := fun _ _ _ _ => ⟨rfl, fun _ _ _ => Iff.rfl⟩
theorem WKo.e {b h h' : aH} {i : Int} (H : WKo b h i) (e6 : gI h' 46 = gI h 46) (e5 : arJ h' 45 = arJ h 45) : WKo b h' i := fun c c0 c1 n => by
  obtain ⟨p, q⟩ := H c c0 c1 n
  exact ⟨(congrFun e6 c).trans p, fun j j0 j1 => (BTz.e e5).trans (q j j0 j1)⟩
theorem WKo.w6 {b h h' : aH} {i : Int} {x : Int} (H : WKo b h i) (sq : ∀ c : Int, 0 ≤ c → (c = i → gI h' 46 c = x) ∧ (c ≠ i → gI h' 46 c = gI h 46 c)) (e5 : arJ h' 45 = arJ h 45) : WKo b h' i := fun c c0 c1 n => by
  obtain ⟨p, q⟩ := H c c0 c1 n
  exact ⟨((sq c c0).2 n).trans p, fun j j0 j1 => (BTz.e e5).trans (q j j0 j1)⟩
theorem WKo.w5 {b h h' : aH} {i j : Int} (H : WKo b h i) (e6 : gI h' 46 = gI h 46) (bs : ∀ j' i' : Int, 0 ≤ i' → i' < 12 → 0 ≤ j' → j' < 192 → (BTz h' j' i' ↔ BTz h j' i' ∨ (i' = i ∧ j' = j))) : WKo b h' i := fun c c0 c1 n => by
  obtain ⟨p, q⟩ := H c c0 c1 n
  exact ⟨(congrFun e6 c).trans p, fun k k0 k1 => (bs k c c0 c1 k0 k1).trans ⟨fun u => u.elim (q k k0 k1).mp (fun u => absurd u.1 n), fun u => Or.inl ((q k k0 k1).mpr u)⟩⟩
/-- the bits of the comet that is weighed: returns below k; words below n of return k -/
def WBk (ls l1 : List (List (Int × Int) × List (Int × Int))) (b h : aH) (z : Nat) (i k : Int) : Prop := ∀ j : Int, 0 ≤ j → j < 192 → (BTz h j i ↔ RFk ls l1 b z k j)
def WBp (ls l1 : List (List (Int × Int) × List (Int × Int))) (b h : aH) (z : Nat) (i k n : Int) : Prop := ∀ j : Int, 0 ≤ j → j < 192 → (BTz h j i ↔ RFp ls l1 b z k n j)
theorem WBk.e {ls l1 : List (List (Int × Int) × List (Int × Int))} {b h h' : aH} {z : Nat} {i k : Int} (H : WBk ls l1 b h z i k) (e5 : arJ h' 45 = arJ h 45) : WBk ls l1 b h' z i k := fun j j0 j1 => (BTz.e e5).trans (H j j0 j1)
theorem WBp.e {ls l1 : List (List (Int × Int) × List (Int × Int))} {b h h' : aH} {z : Nat} {i k n : Int} (H : WBp ls l1 b h z i k n) (e5 : arJ h' 45 = arJ h 45) : WBp ls l1 b h' z i k n := fun j j0 j1 => (BTz.e e5).trans (H j j0 j1)
theorem WBk.z {ls l1 : List (List (Int × Int) × List (Int × Int))} {b h h' : aH} {z : Nat} {i k : Int} (H : WZi h i) (e5 : arJ h' 45 = arJ h 45) (e : k ≤ fO b z 8) : WBk ls l1 b h' z i k := fun j j0 j1 => (BTz.e e5).trans ⟨fun q => absurd q (H.2 j j0 j1), fun ⟨_, m, r, _⟩ => by omega⟩
theorem WBk.p {ls l1 : List (List (Int × Int) × List (Int × Int))} {b h : aH} {z : Nat} {i k n : Int} (H : WBk ls l1 b h z i k) (e : n ≤ 0) : WBp ls l1 b h z i k n := fun j j0 j1 => (H j j0 j1).trans ⟨Or.inl, fun q => q.elim id (fun q => by omega)⟩
theorem WBp.k {ls l1 : List (List (Int × Int) × List (Int × Int))} {b h : aH} {z : Nat} {i k n k' : Int} (H : WBp ls l1 b h z i k n) (en : n = fO b 15 1) (k0 : fO b z 8 ≤ k) (e : k' = k + 1) : WBk ls l1 b h z i k' := fun j j0 j1 => (H j j0 j1).trans (by
  constructor
  · rintro (⟨l, m, r, q⟩ | ⟨l, q⟩)
    · exact ⟨l, m, ⟨r.1, by omega⟩, q⟩
    · exact ⟨by omega, k, ⟨k0, by omega⟩, q⟩
  · rintro ⟨l, m, r, q⟩
    by_cases u : m < k
    · exact Or.inl ⟨l, m, ⟨r.1, u⟩, q⟩
    · obtain rfl : m = k := by omega
      exact Or.inr ⟨by omega, q⟩)
theorem WBp.n {ls l1 : List (List (Int × Int) × List (Int × Int))} {b h : aH} {z : Nat} {i k n n' : Int} (H : WBp ls l1 b h z i k n) (n0 : 0 ≤ n ∧ n < 192) (f : RF1 ls l1 b z k n → BTz h n i) (e : n' = n + 1) : WBp ls l1 b h z i k n' := fun j j0 j1 => (H j j0 j1).trans (by
  constructor
  · rintro (q | ⟨l, q⟩)
    · exact Or.inl q
    · exact Or.inr ⟨by omega, q⟩
  · rintro (q | ⟨l, q⟩)
    · exact Or.inl q
    · by_cases u : j < n
      · exact Or.inr ⟨u, q⟩
      · obtain rfl : j = n := by omega
        exact (H j j0 j1).mp (f q))
theorem WBp.y {ls l1 : List (List (Int × Int) × List (Int × Int))} {b h h' : aH} {z : Nat} {i k n n' : Int} (H : WBp ls l1 b h z i k n) (i0 : 0 ≤ i ∧ i < 12) (f : RF1 ls l1 b z k n) (bs : ∀ j' i' : Int, 0 ≤ i' → i' < 12 → 0 ≤ j' → j' < 192 → (BTz h' j' i' ↔ BTz h j' i' ∨ (i' = i ∧ j' = n))) (e : n' = n + 1) : WBp ls l1 b h' z i k n' := fun j j0 j1 => (bs j i i0.1 i0.2 j0 j1).trans (by
  rw [H j j0 j1]
  constructor
  · rintro ((q | ⟨l, q⟩) | ⟨-, u⟩)
    · exact Or.inl q
    · exact Or.inr ⟨by omega, q⟩
    · exact Or.inr ⟨by omega, by rw [u]; exact f⟩
  · rintro (q | ⟨l, q⟩)
    · exact Or.inl (Or.inl q)
    · by_cases u : j < n
      · exact Or.inl (Or.inr ⟨u, q⟩)
      · exact Or.inr ⟨rfl, by omega⟩)
theorem RF1.no {ls l1 : List (List (Int × Int) × List (Int × Int))} {h : aH} {z w : Nat} {k j : Int} (p : wz h j w) (n : ¬ (fO h w 1 ≠ 3 ∧ FWz ls l1 h w z (cf h z k))) : ¬ RF1 ls l1 h z k j := fun ⟨w', p', a, f⟩ => by
  obtain rfl := wz_u p p'
  exact n ⟨a, f⟩
/-- whether the return is missed so far -/
def WMs (ls l1 : List (List (Int × Int) × List (Int × Int))) (h : aH) (z : Nat) (k n m : Int) : Prop := m = 1 ↔ SWz ls h z k ∧ NFk ls l1 h z k n
theorem WMs.z {ls l1 : List (List (Int × Int) × List (Int × Int))} {h : aH} {z : Nat} {k n m : Int} (H : m = 1 ↔ SWz ls h z k) (e : n ≤ 0) : WMs ls l1 h z k n m := H.trans ⟨fun q => ⟨q, fun j w j0 j1 => by omega⟩, fun q => q.1⟩
theorem WMs.k {ls l1 : List (List (Int × Int) × List (Int × Int))} {h : aH} {z : Nat} {k n n' m : Int} (H : WMs ls l1 h z k n m) (ne : m ≠ 1) (e : n' = n + 1) : WMs ls l1 h z k n' m := ⟨fun q => absurd q ne, fun q => H.mpr ⟨q.1, fun j w j0 j1 => q.2 j w j0 (by omega)⟩⟩
theorem WMs.n {ls l1 : List (List (Int × Int) × List (Int × Int))} {h : aH} {z w : Nat} {k n n' m : Int} (H : WMs ls l1 h z k n m) (p : wz h n w) (f : ¬ FWz ls l1 h w z (cf h z k)) (e : n' = n + 1) : WMs ls l1 h z k n' m := H.trans ⟨fun q => ⟨q.1, fun j w' j0 j1 p' => by
  by_cases u : j < n
  · exact q.2 j w' j0 u p'
  · obtain rfl : j = n := by omega
    obtain rfl := wz_u p p'
    exact f⟩, fun q => ⟨q.1, fun j w' j0 j1 => q.2 j w' j0 (by omega)⟩⟩
theorem WMs.y {ls l1 : List (List (Int × Int) × List (Int × Int))} {h : aH} {z w : Nat} {k n n' m' : Int} (n0 : 0 ≤ n) (p : wz h n w) (f : FWz ls l1 h w z (cf h z k)) (ne : m' ≠ 1) (e : n' = n + 1) : WMs ls l1 h z k n' m' := ⟨fun q => absurd q ne, fun q => absurd f (q.2 n w n0 (by omega) p)⟩
theorem WMs.f {ls l1 : List (List (Int × Int) × List (Int × Int))} {h : aH} {z : Nat} {k n m : Int} (H : WMs ls l1 h z k n m) (en : n = fO h 15 1) : m = 1 ↔ MSz ls l1 h z k := by
  unfold MSz
  rw [← en]
  exact H
/-- a comet has been weighed -/
theorem WTr.mk {ls l1 : List (List (Int × Int) × List (Int × Int))} {b h : aH} {i : Int} {z : Nat} (P : WTr ls l1 b b) (K : WKo b h i) (l : i < fO b 1 4) (w : cz b i z) (e6 : gI h 46 i = cq (MSz ls l1 b z) (fO b z 8) (fO b z 9 + 1)) (B : WBk ls l1 b h z i (fO b z 9 + 1)) : WTr ls l1 b h := fun c c0 c1 => by
  by_cases q : c = i
  · subst q
    exact Or.inr ⟨l, z, w, e6, B⟩
  · obtain ⟨a6, a5⟩ := K c c0 c1 q
    rcases P c c0 c1 with p | ⟨l', z', w', p⟩
    · exact Or.inl (p.e a6 a5)
    · exact Or.inr ⟨l', z', w', p.e a6 a5⟩
theorem WTr.un1 {ls l1 : List (List (Int × Int) × List (Int × Int))} {b h : aH} {i : Int} (P : WTr ls l1 b h) (hO : OK b) (i0 : 0 ≤ i ∧ i < 12) (e : gI h 46 i = -1) : WZi h i := by
  rcases P i i0.1 i0.2 with p | ⟨l, z, w, p⟩
  · exact p
  · exfalso
    have fl := cm_fl hO (cz_ok hO w).2
    have q := p.1
    by_cases u : fO b z 8 ≤ fO b z 9 + 1
    · have r := cq_r (P := MSz ls l1 b z) u
      omega
    · rw [cq_z (by omega)] at q
      omega
theorem WTr.r {ls l1 : List (List (Int × Int) × List (Int × Int))} {b h : aH} {i : Int} (P : WTr ls l1 b h) (hO : OK b) (i0 : 0 ≤ i ∧ i < 12) (e : gI h 46 i ≠ -1) : 0 ≤ gI h 46 i ∧ gI h 46 i ≤ 121 := by
  rcases P i i0.1 i0.2 with p | ⟨l, z, w, p⟩
  · exact absurd p.1 e
  · have fl := cm_fl hO (cz_ok hO w).2
    have q := p.1
    by_cases u : fO b z 8 ≤ fO b z 9 + 1
    · have r := cq_r (P := MSz ls l1 b z) u
      omega
    · rw [cq_z (by omega)] at q
      omega
/-- what the class's worth is made of, told by the heap of the call -/
def RCw (ls l1 : List (List (Int × Int) × List (Int × Int))) (b : aH) (j c : Int) : Prop := RFk ls l1 b (co b c) (fO b (co b c) 9 + 1) j
noncomputable def MCw (ls l1 : List (List (Int × Int) × List (Int × Int))) (b : aH) (c : Int) : Int := cq (MSz ls l1 b (co b c)) (fO b (co b c) 8) (fO b (co b c) 9 + 1)
theorem WTr.v {ls l1 : List (List (Int × Int) × List (Int × Int))} {b h : aH} {S : Int32} (P : WTr ls l1 b h) (n : 0 ≤ fO b 15 1 ∧ fO b 15 1 ≤ 150) (hb : ∀ c : Int, 0 ≤ c → c < 12 → bt S c = 1 → gI h 46 c ≠ -1) : WVx (fun j c => BTz h j c) (fun c => gI h 46 c) 192 S = WVx (RCw ls l1 b) (MCw ls l1 b) (fO b 15 1) S := by
  have k : ∀ c : Int, 0 ≤ c → c < 12 → bt S c = 1 → gI h 46 c = MCw ls l1 b c ∧ ∀ j : Int, 0 ≤ j → j < 192 → (BTz h j c ↔ RCw ls l1 b j c) := fun c c0 c1 s => by
    rcases P c c0 c1 with p | ⟨l, z, w, p⟩
    · exact absurd p.1 (hb c c0 c1 s)
    · unfold MCw RCw
      rw [co_of w]
      exact p
  rw [WVx_c (F := fun j c => BTz h j c) (G := RCw ls l1 b) (M := fun c => gI h 46 c) (N := MCw ls l1 b) (fun j c j0 j1 c0 c1 s => (k c c0 c1 s).2 j j0 j1) (fun c hc s => (k (c : Int) (by omega) (by omega) s).1)]
  have z : cq (fun j => ∃ c : Int, (0 ≤ c ∧ c < 12) ∧ bt S c = 1 ∧ RCw ls l1 b j c) (fO b 15 1) 192 = 0 := cq_0 (fun d d0 d1 => fun ⟨c, r, s, q⟩ => by
    have := q.1
    omega)
  unfold WVx
  rw [cq_ap (lo := 0) (a := fO b 15 1) (b := 192) n.1 (by omega), z, Int.add_zero]
theorem SWz.un {ls : List (List (Int × Int) × List (Int × Int))} {V : List Nat} {h h' : aH} {z : Nat} {k : Int} (hO : OK h) (hO' : OK h') (g : un V h h') (t : 114 ≤ z ∧ tg h z = (102, 14)) (v : ∀ q ∈ wgK, q ∉ V) : SWz ls h' z k ↔ SWz ls h z k := by
  have f : ∀ q : Nat, q < 14 → 21200 + q ∈ wgK → fO h' z q = fO h z q := fun q hq m => fO_eA (fC_un hO g t.1 t.2 hq (v _ m))
  exact SWz.k hO hO' g (fun q hq => f q (by revert hq; revert q; decide) (by revert hq; revert q; decide)) (cf_un hO g t.1 t.2 (fun q hq => v q (by revert hq; revert q; decide))) (fun q hq => v q (by revert hq; revert q; decide))
/-- a word's number is its place -/
def NBw (h : aH) : Prop := ∀ (j : Int) (w : Nat), 0 ≤ j → j < fO h 15 1 → wz h j w → fO h w 0 = j
theorem NBw.un {W : List Nat} {h h' : aH} (H : NBw h) (hO : OK h) (hO' : OK h') (g : un W h h') (v : ∀ k ∈ [16, 2501, 22000], k ∉ W) : NBw h' := fun j w j0 j1 p => by
  have p1 := wz_c (arR_u hO g (v 16 (by decide))) p
  rw [n15_un hO hO' g (v 2501 (by decide))] at j1
  rw [fO_wu hO g (wz_ok hO p1) (k := 0) (by decide) (v _ (by decide))]
  exact H j w j0 j1 p1
theorem NR_no {ls l1 : List (List (Int × Int) × List (Int × Int))} {b h : aH} {z w : Nat} {i j k : Int} (nr : ¬ (fO h w 1 ≠ 3 ∧ ¬ tb (gL h 45 (3 * i + fO h w 0 / 64)) (fO h w 0 % 64))) (e0 : fO h w 0 = j) (e1 : fO h w 1 = fO b w 1) (p : wz b j w) : RF1 ls l1 b z k j → BTz h j i := fun ⟨w', p', a, f⟩ => by
  obtain rfl := wz_u p p'
  refine Classical.byContradiction fun n => nr ⟨by rw [e1]; exact a, ?_⟩
  rw [e0]
  exact n
theorem WKo.p2 {b h : aH} {i : Int} (K : WKo b h i) (e : gI b 46 i = -1) : ∀ c : Int, 0 ≤ c → c < 12 → gI b 46 c ≠ -1 → gI h 46 c ≠ -1 := fun c c0 c1 n => by
  rw [(K c c0 c1 (fun q => n (by rw [q]; exact e))).1]
  exact n
theorem an5 {A B C D E : Prop} (t : A ∧ B ∧ C ∧ D) (v : E) : A ∧ B ∧ C ∧ D ∧ E := ⟨t.1, t.2.1, t.2.2.1, t.2.2.2, v⟩
/-- the worth of set k, told by the heap of the call -/
noncomputable def VZx (ls l1 : List (List (Int × Int) × List (Int × Int))) (b : aH) (k : Int) : Int := WVx (RCw ls l1 b) (MCw ls l1 b) (fO b 15 1) (Int32.ofInt k)
theorem WVx_0 {F : Int → Int → Prop} {M : Int → Int} {n : Int} : WVx F M n 0 = 0 := by
  have b : ∀ c : Int, 0 ≤ c → c < 12 → ¬ bt 0 c = 1 := fun c c0 c1 q => bb_0 ((bt_bb ⟨c0, by omega⟩).mp q)
  have z : cq (fun j => ∃ c : Int, (0 ≤ c ∧ c < 12) ∧ bt 0 c = 1 ∧ F j c) 0 n = 0 := cq_0 (fun d _ _ => fun ⟨c, r, q, _⟩ => b c r.1 r.2 q)
  unfold WVx
  rw [z, smW_x (n := 0) 12 (by decide) (fun c _ c1 => b (c : Int) (by omega) (by omega))]
  rfl
theorem i32_k {k : Int} (h : 0 ≤ k ∧ k ≤ 64) : (Int32.ofInt k).toInt = k := by
  have d : ∀ n : Nat, n < 65 → (Int32.ofInt (n : Int)).toInt = (n : Int) := by decide +kernel
  have q := d k.toNat (by omega)
  rw [show ((k.toNat : Nat) : Int) = k by omega] at q
  exact q
theorem BC_of {ls l1 : List (List (Int × Int) × List (Int × Int))} {b h : aH} {n x w : Int} (P : WTr ls l1 b h) (n15 : 0 ≤ fO b 15 1 ∧ fO b 15 1 ≤ 150) (hn : 0 ≤ n ∧ n ≤ 6) (g1 : ∀ c : Int, 0 ≤ c → c < n → gI h 46 c ≠ -1) (F : bsF (VCx h) (p2 n - 1).toNat = (x, w)) : bsF (VZx ls l1 b) (p2 n - 1).toNat = (x, w) := by
  rw [← F]
  refine bsF_c _ (fun k k0 k1 => ?_)
  have r := p2_r (k := n) (by omega)
  have e := i32_k (k := k) (by omega)
  unfold VZx VCx
  exact (P.v n15 (fun c c0 c1 s => g1 c c0 (bt_lt (k := n) ⟨by omega, by omega⟩ ⟨c0, by omega⟩ s))).symm
theorem BV_y {ls l1 : List (List (Int × Int) × List (Int × Int))} {b h : aH} {S : Int32} {y w : Int} {m : Nat} (P : WTr ls l1 b h) (n15 : 0 ≤ fO b 15 1 ∧ fO b 15 1 ≤ 150) (hb : ∀ c : Int, 0 ≤ c → c < 12 → bt S c = 1 → gI h 46 c ≠ -1) (e : y = WVx (fun j c => BTz h j c) (fun c => gI h 46 c) 192 S) (G : bsF (VZx ls l1 b) m = (S.toInt, w)) : y = w := by
  have q := bsF_v (V := VZx ls l1 b) (by unfold VZx; exact WVx_0) m
  rw [G] at q
  have q : w = VZx ls l1 b S.toInt := q
  rw [e, P.v n15 hb, q]
  unfold VZx
  rw [Int32.ofInt_toInt]

end WSWY
