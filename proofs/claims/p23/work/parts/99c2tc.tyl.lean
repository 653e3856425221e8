/-! TEXTS OF BOTH: the lines that stand at a place are one list; answers about spans are alike -/
section TYL
theorem les_toks : ∀ {n : Int} {a b : List (List (Int × Int) × List (Int × Int))}, les n a = les n b → (toks a).length = (toks b).length
  | _, [], [], _ => rfl
  | _, [], _ :: _, h => absurd h (fun q => by cases q)
  | _, _ :: _, [], h => absurd h (fun q => by cases q)
  | n, l :: a, m :: b, h => by
    have h : (n + l.1.length + l.2.length) :: les (n + l.1.length + l.2.length) a = (n + m.1.length + m.2.length) :: les (n + m.1.length + m.2.length) b := h
    injection h with e f
    rw [← e] at f
    have k := les_toks f
    show (l.1 ++ l.2 ++ toks a).length = (m.1 ++ m.2 ++ toks b).length
    rw [List.length_append, List.length_append, List.length_append, List.length_append]
    omega
theorem tl_inj : ∀ {n : Int} {a b : List (List (Int × Int) × List (Int × Int))}, tes n a = tes n b → les n a = les n b → toks a = toks b → a = b
  | _, [], [], _, _, _ => rfl
  | _, [], _ :: _, h, _, _ => absurd h (fun q => by cases q)
  | _, _ :: _, [], h, _, _ => absurd h (fun q => by cases q)
  | n, (t, s) :: a, (t', s') :: b, h1, h2, h3 => by
    have h1 : (n + t.length) :: tes (n + t.length + s.length) a = (n + t'.length) :: tes (n + t'.length + s'.length) b := h1
    have h2 : (n + t.length + s.length) :: les (n + t.length + s.length) a = (n + t'.length + s'.length) :: les (n + t'.length + s'.length) b := h2
    have h3 : t ++ s ++ toks a = t' ++ s' ++ toks b := h3
    injection h1 with e1 f1
    injection h2 with e2 f2
    obtain ⟨g1, g2⟩ := List.append_inj h3 (by rw [List.length_append, List.length_append]; omega)
    obtain ⟨g3, g4⟩ := List.append_inj g1 (by omega)
    subst g3 g4
    rw [tl_inj f1 f2 g2]
theorem rEp.inj {h : aH} {c p : Nat} {xs ys : List Int} (g : rEp h c p xs) (k : rEp h c p ys) (l : xs.length = ys.length) : xs = ys :=
  List.ext_getElem l (fun i i1 i2 => by
    have e := (g i i1).symm.trans (k i i2)
    rw [List.getD_eq_getElem?_getD, List.getD_eq_getElem?_getD, List.getElem?_eq_getElem i1, List.getElem?_eq_getElem i2] at e
    exact e)
theorem RLn.inj {h : aH} {p : Nat} {a b : List (List (Int × Int) × List (Int × Int))} (H : RLn h p a) (K : RLn h p b) : a = b := by
  obtain ⟨a1, a2, a3, a4, a5, a6⟩ := H
  obtain ⟨b1, b2, b3, b4, b5, b6⟩ := K
  have t := a5.inj b5 (by rw [tes_len, tes_len]; omega)
  have l := a6.inj b6 (by rw [les_len, les_len]; omega)
  exact tl_inj t l (by rw [← a4, ← b4, les_toks l])
/-- texts of both are the same lines -/
def TXS (h : aH) : Prop := ∀ n, n ≤ 8 → ∃ ls : List (List (Int × Int) × List (Int × Int)), RLn h (n + 2) ls ∧ (∀ l ∈ ls, lnG l) ∧ txC h (23 + 2 * n) = cfl 0 ls
noncomputable def LL (h : aH) (n : Nat) : List (List (Int × Int) × List (Int × Int)) := Classical.epsilon (fun ls => RLn h (n + 2) ls)
theorem LL_e {h : aH} {n : Nat} {ls : List (List (Int × Int) × List (Int × Int))} (H : RLn h (n + 2) ls) : LL h n = ls :=
  (Classical.epsilon_spec (p := fun ls => RLn h (n + 2) ls) ⟨ls, H⟩).inj H
theorem TXS.c {h h' : aH} (T : TXS h) (k : KN h h') {n : Nat} (hn : n ≤ 8) : LL h' n = LL h n := by
  obtain ⟨ls, r, -, -⟩ := T n hn
  rw [LL_e r, LL_e (r.keep k (by omega))]
def TXZ (h : aH) : Prop := TXF h (LL h)
def RXZ (h : aH) : Prop := RXF h (LL h)
theorem TXS.tx {h : aH} (T : TXS h) : TXZ h := fun n hn => by
  obtain ⟨ls, r, g, e⟩ := T n hn
  rw [LL_e r]
  exact ⟨e, g⟩
theorem TXS.rx {h h' : aH} (T : TXS h) (k : KN h h') : RXZ h' := fun n hn => by
  obtain ⟨ls, r, g, e⟩ := T n hn
  have r := r.keep k (by omega)
  rw [LL_e r]
  exact ⟨r, g⟩
theorem TXS.k {h h' : aH} (T : TXS h) (c : ∀ q ∈ TXQ, txC h' q = txC h q) (k : KN h h') : TXS h' := fun n hn => by
  obtain ⟨ls, r, g, e⟩ := T n hn
  exact ⟨ls, r.keep k (by omega), g, (c _ (txm_q (by omega))).trans e⟩
theorem fO_fV {h : aH} {z k : Nat} : fO h z k = (fV h z k).toInt := by
  rw [fO_g]
  unfold fV
  cases q : fA h z k with
  | none => rfl
  | some v =>
    match v with
    | .inl x => rfl
    | .inr y => rfl
theorem fV_gV {h : aH} {z k a : Nat} {i : Int} (e : fO h z k = gI h a i) : fV h z k = gV h a i := Int32.toInt_inj.mp (by rw [← fO_fV, e]; rfl)
/-- what both remember of reigns and spans -/
def RGS (h : aH) : Prop := ∀ r : Int, 0 ≤ r → r ≤ 19 → gI h 17 r ≠ -1 → gV h 90 r = gV h 17 r ∧ gV h 92 r = gV h 18 r ∧ gI h 91 r = if gI h 18 r = -1 then 1 else 2
def SPS (h : aH) : Prop := (∀ (i : Int) z, 0 ≤ i → i < fO h 15 1 → wz h i z → fO h z 1 ≠ 3 → SPz h z (LL h (fO h z 2).toNat)) ∧ ∀ i : Int, 0 ≤ i → i < fO h 15 1 → gI h 101 i < 0 ∨ tdR h (gI h 101 i)
theorem SPS.v {h : aH} (g : SPS h) (R : RGS h) (T : WT h) {i : Int} {z : Nat} (h0 : 0 ≤ i) (h1 : i < fO h 15 1) (w : wz h i z) (n3 : gI h 96 i ≠ 3) : nM h i = fO h z 10 ∧ fO h z 4 = gI h 102 i ∧ (fO h z 10 = 1 ∨ fO h z 10 = 2) ∧ ∀ j, 0 ≤ j → j ≤ fO h z 10 - 1 → VM h (LL h) i j = VC h z j := by
  obtain ⟨z', w', a0, a1, a2, a3, a4, a5, a6, a7, a8, a9, a10⟩ := T i h0 h1
  obtain rfl := wz_u w w'
  have s := g.1 i z h0 h1 w (by rw [a1]; exact n3)
  have t := g.2 i h0 h1
  obtain ⟨s1, s2, s3⟩ := s
  have v5 := fV_gV a5
  have v6 := fV_gV a6
  have v7 := fV_gV a7
  rw [a2, v5, v6, v7] at s1 s2 s3
  rw [a3] at s1 s2 s3
  have fin : ∀ (n : Int) (m o : Int), fO h z 10 = n → (n = 1 ∨ n = 2) → nM h i = n → (VM h (LL h) i 0 = fO h z 11) → (n = 2 → ∀ j, j ≠ 0 → VM h (LL h) i j = fO h z 12) → nM h i = fO h z 10 ∧ fO h z 4 = gI h 102 i ∧ (fO h z 10 = 1 ∨ fO h z 10 = 2) ∧ ∀ j, 0 ≤ j → j ≤ fO h z 10 - 1 → VM h (LL h) i j = VC h z j := fun n m o e c e2 e3 e4 => by
    refine ⟨e2.trans e.symm, a4, by rw [e]; exact c, fun j j0 j1 => ?_⟩
    unfold VC
    by_cases q : j = 0
    · rw [if_pos q, q, e3]
    · rw [if_neg q]
      exact e4 (by omega) j q
  rcases t with t | t
  · obtain ⟨p, q⟩ := s1 (fun k => absurd k.1.1 (by omega))
    refine fin 1 0 0 p (Or.inl rfl) (by unfold nM; rw [if_pos t]) ?_ (fun k => by omega)
    rw [q]
    unfold VM FR
    rw [if_pos t]
  · have r := R _ t.1.1 t.1.2 t.2
    have nn : ¬ gI h 101 i < 0 := by have := t.1.1; omega
    by_cases k : gI h 18 (gI h 101 i) = -1
    · obtain ⟨p, q⟩ := s2 t k
      refine fin 1 0 0 p (Or.inl rfl) (by unfold nM; rw [if_neg nn, r.2.2, if_pos k]) ?_ (fun k => by omega)
      rw [q]
      unfold VM FR
      rw [if_neg nn, if_pos rfl, r.1]
    · obtain ⟨p, q, o⟩ := s3 t k
      refine fin 2 0 0 p (Or.inr rfl) (by unfold nM; rw [if_neg nn, r.2.2, if_neg k]) ?_ (fun _ j j0 => ?_)
      · rw [q]
        unfold VM FR
        rw [if_neg nn, if_pos rfl, r.1]
      · rw [o]
        unfold VM FR
        rw [if_neg nn, if_neg j0, r.2.1]
theorem rck_r {ls : List (List (Int × Int) × List (Int × Int))} {y m d r : Int32} : -2000000 ≤ rck ls y m d r ∧ rck ls y m d r ≤ 2000000 := by
  unfold rck hldI
  generalize (if ls = [] then 360 * y + 30 * m + d else tvl (nuY y m d r) ls).toInt = v
  by_cases p : v < -2000000
  · rw [if_pos p]
    omega
  · rw [if_neg p]
    by_cases q : 2000000 < v
    · rw [if_pos q]
      omega
    · rw [if_neg q]
      omega
theorem SPS.rtw {h : aH} (g : SPS h) (R : RGS h) (T : WT h) (L : SLm h) (hO : OK h) (c : fO h 15 1 = fI h 38) : RTW h := fun i z r h0 h1 w q => by
  have wr := T.root h0 h1 w q
  have rr := rt_r (T.ce c) (wI38 hO).2 h0 (by omega)
  obtain ⟨v1, v2, v3, v4⟩ := g.v R T rr.1.1 (by omega) wr rr.2
  have r4 : 0 ≤ gI h 102 (rt h i) ∧ gI h 102 (rt h i) ≤ 400 := L.1 _ rr.1.1 (by omega)
  have k0 := v4 0 (by omega) (by omega)
  have b0 : -2000000 ≤ VM h (LL h) (rt h i) 0 ∧ VM h (LL h) (rt h i) 0 ≤ 2000000 := rck_r
  unfold VC at k0
  rw [if_pos rfl] at k0
  refine ⟨by omega, by omega, ?_⟩
  rcases v3 with q | q
  · exact Or.inl q
  · have k1 := v4 1 (by omega) (by omega)
    have b1 : -2000000 ≤ VM h (LL h) (rt h i) 1 ∧ VM h (LL h) (rt h i) 1 ≤ 2000000 := rck_r
    unfold VC at k1
    rw [if_neg (by decide)] at k1
    exact Or.inr ⟨q, by omega, by omega⟩
/-- answers about spans are alike -/
theorem SPS.root {h : aH} (g : SPS h) (R : RGS h) (T : WT h) (hO : OK h) (c : fO h 15 1 = fI h 38) {i : Int} {z r : Nat} (h0 : 0 ≤ i) (h1 : i < fO h 15 1) (w : wz h i z) (q : rtz h z r) : nM h (rt h i) = fO h r 10 ∧ fO h r 4 = gI h 102 (rt h i) ∧ (fO h r 10 = 1 ∨ fO h r 10 = 2) ∧ ∀ j, 0 ≤ j → j ≤ fO h r 10 - 1 → VM h (LL h) (rt h i) j = VC h r j := by
  have wr := T.root h0 h1 w q
  have rr := rt_r (T.ce c) (wI38 hO).2 h0 (by omega)
  exact g.v R T rr.1.1 (by omega) wr rr.2
/-- what findSpan goes by is at h' what it was -/
def VK (h h' : aH) : Prop := (∀ r i, VM h' (LL h') r i = VM h (LL h) r i) ∧ (∀ r, nM h' r = nM h r) ∧ ∀ r, gI h' 102 r = gI h 102 r
theorem VK.v {h h' : aH} (g : VK h h') : ∀ r i, VM h' (LL h') r i = VM h (LL h) r i := g.1
theorem VK.n {h h' : aH} (g : VK h h') : ∀ r, nM h' r = nM h r := g.2.1
theorem VK.s {h h' : aH} (g : VK h h') : ∀ r, gI h' 102 r = gI h 102 r := g.2.2
theorem VK.mk' {h h' : aH} (hO : OK h) (T : TXS h) (k : KN h h') (e : ∀ a ∈ [90, 91, 92, 97, 98, 99, 100, 101, 102], arI h' a = arI h a) : VK h h' := by
  have g : ∀ a ∈ [90, 91, 92, 97, 98, 99, 100, 101, 102], ∀ j, gI h' a j = gI h a j := fun a ha j => gI_e (e a ha) j
  refine ⟨fun r i => ?_, fun r => ?_, fun r => g 102 (by decide) r⟩
  · have x : 0 ≤ gI h 97 r ∧ gI h 97 r ≤ 8 := gI_rg (a := 97) (n := 150) hO (by decide) rfl (by decide) _
    unfold VM FR
    rw [g 97 (by decide), T.c k (by omega), gV_e (e 98 (by decide)), gV_e (e 99 (by decide)), gV_e (e 100 (by decide)), g 101 (by decide), gV_e (e 90 (by decide)), gV_e (e 92 (by decide))]
  · unfold nM
    rw [g 101 (by decide), g 91 (by decide)]
theorem RGS.k {h h' : aH} (R : RGS h) (a17 : arI h' 17 = arI h 17) (a18 : arI h' 18 = arI h 18) (a90 : arI h' 90 = arI h 90) (a91 : arI h' 91 = arI h 91) (a92 : arI h' 92 = arI h 92) : RGS h' := fun r h0 h1 k => by
  rw [gI_e a17] at k
  rw [gV_e a90, gV_e a17, gV_e a92, gV_e a18, gI_e a91, gI_e a18]
  exact R r h0 h1 k
theorem SPS.k {h h' : aH} (g : SPS h) (hO : OK h) (W : WT h) (el : ∀ n, n ≤ 8 → LL h' n = LL h n) (w : arR h' 16 = arR h 16) (n : fO h' 15 1 = fO h 15 1) (ow : OW3 h h' 0) (a17 : arI h' 17 = arI h 17) (a18 : arI h' 18 = arI h 18) (a101 : arI h' 101 = arI h 101) : SPS h' := by
  refine ⟨fun i z h0 h1 wz' => ?_, fun i h0 h1 => ?_⟩
  · have v := wz_c w wz'
    have o := wz_ok hO v
    obtain ⟨t, e⟩ := ow z o.1 o.2 (by omega)
    obtain ⟨z', w', a0, a1, a2, -⟩ := W i h0 (by omega)
    obtain rfl := wz_u v w'
    have r : 0 ≤ gI h 97 i ∧ gI h 97 i ≤ 8 := gI_rg (a := 97) (n := 150) hO (by decide) rfl (by decide) _
    rw [fO_eA (e 1 (by decide)), fO_eA (e 2 (by decide)), el _ (by omega)]
    intro q
    exact (g.1 i z h0 (by omega) v q).c e ⟨gI_e a17 _, gV_e a17 _⟩ ⟨gI_e a18 _, gV_e a18 _⟩
  · rw [gI_e a101]
    rcases g.2 i h0 (by omega) with q | q
    · exact Or.inl q
    · refine Or.inr ⟨q.1, ?_⟩
      rw [gI_e a17]
      exact q.2
theorem tg_0 {h : aH} {z : Nat} (t : tg h z = (110, 13)) : z ≠ h.length := fun e => by
  unfold tg at t
  rw [e, List.getElem?_eq_none (Nat.le_refl _)] at t
  exact absurd t (by decide)
theorem SPz.c2 {h h' : aH} {z : Nat} {ls : List (List (Int × Int) × List (Int × Int))} (g : SPz h z ls) (e : ∀ k, k < 13 → fA h' z k = fA h z k) (e7 : 0 ≤ fO h z 3 → gI h' 17 (fO h z 3) = gI h 17 (fO h z 3) ∧ gI h' 18 (fO h z 3) = gI h 18 (fO h z 3)) : SPz h' z ls := by
  by_cases q : 0 ≤ fO h z 3
  · obtain ⟨e7, e8⟩ := e7 q
    exact g.c e ⟨e7, Int32.toInt_inj.mp e7⟩ ⟨e8, Int32.toInt_inj.mp e8⟩
  · have n1 : ¬ tdR h (fO h z 3) := fun k => q k.1.1
    have n2 : ¬ tdR h' (fO h z 3) := fun k => q k.1.1
    unfold SPz
    rw [fO_eA (e 3 (by decide)), fO_eA (e 10 (by decide)), fO_eA (e 11 (by decide)), fV_e (e 5 (by decide)), fV_e (e 6 (by decide)), fV_e (e 7 (by decide))]
    exact ⟨fun _ => g.1 n1, fun k => absurd k n2, fun k => absurd k n2⟩
theorem SPS.tx {h hm h1 h2 : aH} {ls : List (List (Int × Int) × List (Int × Int))} {u : Int} (S : SPS h) (hO : OK h) (W : WT h) (sw : SWq hm h1 (fun _ => ls) (fun z => fO hm z 2 = u) (fO h 15 1)) (ow : OW3 h hm 0) (r : arR hm 16 = arR h 16) (r2 : arR h2 16 = arR h 16) (o2 : OW3 h1 h2 0) (ht : ∀ z, tg h z = (110, 13) → tg h1 z = (110, 13)) (n2 : fO h2 15 1 = fO h 15 1) (el : LL h2 u.toNat = ls) (eo : ∀ n : Nat, n ≤ 8 → (n : Int) ≠ u → LL h2 n = LL h n) (a17 : arI h2 17 = arI h 17) (b17 : arI h2 17 = arI h1 17) (a18 : arI h2 18 = arI h 18) (b18 : arI h2 18 = arI h1 18) (a101 : arI h2 101 = arI h 101) : SPS h2 := by
  refine ⟨fun i z h0 h1' wz' => ?_, fun i h0 h1' => ?_⟩
  · have v := wz_c r2 wz'
    have o := wz_ok hO v
    obtain ⟨t, e⟩ := ow z o.1 o.2 (by omega)
    obtain ⟨t2, e2⟩ := o2 z o.1 (ht z o.2) (by omega)
    obtain ⟨z', w', a0, a1, a2, -⟩ := W i h0 (by omega)
    obtain rfl := wz_u v w'
    have rg : 0 ≤ gI h 97 i ∧ gI h 97 i ≤ 8 := gI_rg (a := 97) (n := 150) hO (by decide) rfl (by decide) _
    have k10 := sw.2.2 z o.1 t
    have f2 : fO h2 z 2 = fO h z 2 := (fO_eA (e2 2 (by decide))).trans ((fO_eA (k10 2 (by decide))).trans (fO_eA (e 2 (by decide))))
    have f1 : fO h2 z 1 = fO h z 1 := (fO_eA (e2 1 (by decide))).trans ((fO_eA (k10 1 (by decide))).trans (fO_eA (e 1 (by decide))))
    have g2 : fO hm z 2 = fO h z 2 := fO_eA (e 2 (by decide))
    have g1 : fO hm z 1 = fO h z 1 := fO_eA (e 1 (by decide))
    intro q
    by_cases p : fO h z 2 = u
    · have s := sw.1 i z h0 (by omega) (wz_c r.symm v) (g2.trans p) (by omega)
      have s : SPz h1 z ls := s
      rw [f2, p, el]
      exact s.c e2 ⟨gI_e b17 _, gV_e b17 _⟩ ⟨gI_e b18 _, gV_e b18 _⟩
    · have k13 := sw.2.1 z o.1 t (fun k => p (g2.symm.trans k))
      have s := S.1 i z h0 (by omega) v (by omega)
      rw [f2, eo _ (by omega) (by omega)]
      exact s.c (fun k hk => (e2 k hk).trans ((k13 k hk).trans (e k hk))) ⟨gI_e a17 _, gV_e a17 _⟩ ⟨gI_e a18 _, gV_e a18 _⟩
  · rw [gI_e a101]
    rcases S.2 i h0 (by omega) with q | q
    · exact Or.inl q
    · refine Or.inr ⟨q.1, ?_⟩
      rw [gI_e a17]
      exact q.2
theorem SPS.rg {h hm h1 h2 : aH} {a1 a2 a3 : Int32} (S : SPS h) (hO : OK h) (W : WT h) (hr : 0 ≤ a1.toInt ∧ a1.toInt ≤ 19) (h2d : 0 ≤ a2.toInt) (sw : SWq hm h1 (LL h) (fun z => fO hm z 3 = a1.toInt) (fO h 15 1)) (ow : OW3 h hm 0) (r : arR hm 16 = arR h 16) (r2 : arR h2 16 = arR h 16) (o2 : OW3 h1 h2 0) (ht : ∀ z, tg h z = (110, 13) → tg h1 z = (110, 13)) (n2 : fO h2 15 1 = fO h 15 1) (T : TXS h) (k : KN h h2) (e17 : arI h2 17 = (arI h 17).set a1.toInt.toNat a2) (b17 : arI h2 17 = arI h1 17) (e18 : arI h2 18 = (arI h 18).set a1.toInt.toNat a3) (b18 : arI h2 18 = arI h1 18) (a101 : arI h2 101 = arI h 101) : SPS h2 := by
  have x7 : ∀ s : Int, 0 ≤ s → (s = a1.toInt → gI h2 17 s = a2.toInt) ∧ (s ≠ a1.toInt → gI h2 17 s = gI h 17 s) := fun s hs => gI_st (j := s) hO (by decide) (n := 20) rfl e17 (by omega) hs
  have x8 : ∀ s : Int, 0 ≤ s → (s = a1.toInt → gI h2 18 s = a3.toInt) ∧ (s ≠ a1.toInt → gI h2 18 s = gI h 18 s) := fun s hs => gI_st (j := s) hO (by decide) (n := 20) rfl e18 (by omega) hs
  refine ⟨fun i z h0 h1' wz' => ?_, fun i h0 h1' => ?_⟩
  · have v := wz_c r2 wz'
    have o := wz_ok hO v
    obtain ⟨t, e⟩ := ow z o.1 o.2 (by omega)
    obtain ⟨t2, e2⟩ := o2 z o.1 (ht z o.2) (by omega)
    obtain ⟨z', w', a0, a1', a2', -⟩ := W i h0 (by omega)
    obtain rfl := wz_u v w'
    have rg : 0 ≤ gI h 97 i ∧ gI h 97 i ≤ 8 := gI_rg (a := 97) (n := 150) hO (by decide) rfl (by decide) _
    have k10 := sw.2.2 z o.1 t
    have f2 : fO h2 z 2 = fO h z 2 := (fO_eA (e2 2 (by decide))).trans ((fO_eA (k10 2 (by decide))).trans (fO_eA (e 2 (by decide))))
    have f1 : fO h2 z 1 = fO h z 1 := (fO_eA (e2 1 (by decide))).trans ((fO_eA (k10 1 (by decide))).trans (fO_eA (e 1 (by decide))))
    have g2 : fO hm z 2 = fO h z 2 := fO_eA (e 2 (by decide))
    have g3 : fO hm z 3 = fO h z 3 := fO_eA (e 3 (by decide))
    have g1 : fO hm z 1 = fO h z 1 := fO_eA (e 1 (by decide))
    intro q
    rw [f2, T.c k (by omega)]
    by_cases p : fO h z 3 = a1.toInt
    · have s := sw.1 i z h0 (by omega) (wz_c r.symm v) (g3.trans p) (by omega)
      rw [g2] at s
      exact s.c e2 ⟨gI_e b17 _, gV_e b17 _⟩ ⟨gI_e b18 _, gV_e b18 _⟩
    · have k13 := sw.2.1 z o.1 t (fun k => p (g3.symm.trans k))
      have s := S.1 i z h0 (by omega) v (by omega)
      exact s.c2 (fun k hk => (e2 k hk).trans ((k13 k hk).trans (e k hk))) (fun h3 => ⟨(x7 _ h3).2 p, (x8 _ h3).2 p⟩)
  · rw [gI_e a101]
    rcases S.2 i h0 (by omega) with q | q
    · exact Or.inl q
    · refine Or.inr ⟨q.1, ?_⟩
      by_cases p : gI h 101 i = a1.toInt
      · rw [(x7 _ q.1.1).1 p]
        omega
      · rw [(x7 _ q.1.1).2 p]
        exact q.2
theorem RGS.rg {h h2 : aH} {a1 a2 a3 v : Int32} (R : RGS h) (hO : OK h) (hr : 0 ≤ a1.toInt ∧ a1.toInt ≤ 19) (h3 : -1 ≤ a3.toInt) (e17 : arI h2 17 = (arI h 17).set a1.toInt.toNat a2) (e18 : arI h2 18 = (arI h 18).set a1.toInt.toNat a3) (e90 : arI h2 90 = (arI h 90).set a1.toInt.toNat a2) (e92 : arI h2 92 = (arI h 92).set a1.toInt.toNat a3) (e91 : arI h2 91 = (arI h 91).set a1.toInt.toNat v) (hv : v.toInt = 1 ∨ v.toInt = 2) (hw : v.toInt = 1 ↔ a3.toInt = -1) : RGS h2 := fun s h0 h1 k => by
  have x17 := gI_st (j := s) hO (by decide) (n := 20) rfl e17 (by omega) h0
  have x18 := gI_st (j := s) hO (by decide) (n := 20) rfl e18 (by omega) h0
  have x90 := gI_st (j := s) hO (by decide) (n := 20) rfl e90 (by omega) h0
  have x91 := gI_st (j := s) hO (by decide) (n := 20) rfl e91 (by omega) h0
  have x92 := gI_st (j := s) hO (by decide) (n := 20) rfl e92 (by omega) h0
  have fin : gI h2 90 s = gI h2 17 s → gI h2 92 s = gI h2 18 s → (gI h2 18 s = -1 → gI h2 91 s = 1) → (gI h2 18 s ≠ -1 → gI h2 91 s = 2) → gV h2 90 s = gV h2 17 s ∧ gV h2 92 s = gV h2 18 s ∧ gI h2 91 s = if gI h2 18 s = -1 then 1 else 2 := fun p q r t => by
    refine ⟨Int32.toInt_inj.mp p, Int32.toInt_inj.mp q, ?_⟩
    by_cases c : gI h2 18 s = -1
    · rw [if_pos c, r c]
    · rw [if_neg c, t c]
  by_cases q : s = a1.toInt
  · have y1 := x17.1 q
    have y2 := x18.1 q
    have y3 := x90.1 q
    have y4 := x91.1 q
    have y5 := x92.1 q
    exact fin (by omega) (by omega) (fun c => by omega) (fun c => by omega)
  · have y1 := x17.2 q
    have y2 := x18.2 q
    have y3 := x90.2 q
    have y4 := x91.2 q
    have y5 := x92.2 q
    rw [y1] at k
    obtain ⟨r1, r2, r3⟩ := R s h0 h1 k
    have r1 : gI h 90 s = gI h 17 s := congrArg Int32.toInt r1
    have r2 : gI h 92 s = gI h 18 s := congrArg Int32.toInt r2
    refine fin (by omega) (by omega) (fun c => ?_) (fun c => ?_)
    · rw [y4, r3, if_pos (by omega)]
    · rw [y4, r3, if_neg (by omega)]
/-- words have come -/
theorem SPS.more {h h1 h2 : aH} (S : SPS h) (hO : OK h) (hO1 : OK h1) (hO2 : OK h2) (W : WT h) (W2 : WT h2) (T : TXS h) (k : KN h h2) (kW : KWc h h1) (ow : ∀ (i : Int) z, 0 ≤ i → i < fO h 15 1 → wz h i z → ∀ k, k < 13 → fA h1 z k = fA h z k) (r2 : arR h2 16 = arR h1 16) (o2 : OW3 h1 h2 0)
    (hn : ∀ (i : Int) z, fO h 15 1 ≤ i → i < fO h2 15 1 → wz h1 i z → fO h1 z 1 ≠ 3 → SPz h1 z (LL h (fO h1 z 2).toNat)) (hr : ∀ i : Int, fO h 15 1 ≤ i → i < fO h2 15 1 → gI h2 101 i < 0 ∨ tdR h2 (gI h2 101 i)) (v : ∀ i : Int, 0 ≤ i → i < fO h 15 1 → gI h2 101 i = gI h 101 i)
    (a17 : arI h2 17 = arI h 17) (b17 : arI h2 17 = arI h1 17) (a18 : arI h2 18 = arI h 18) (b18 : arI h2 18 = arI h1 18) : SPS h2 := by
  refine ⟨fun i z h0 h1' wz' => ?_, fun i h0 h1' => ?_⟩
  · have w1 := wz_c r2 wz'
    have o := wz_ok hO1 w1
    obtain ⟨t2, e2⟩ := o2 z o.1 o.2 (by omega)
    obtain ⟨z', w', c0, c1, c2, -⟩ := W2 i h0 h1'
    obtain rfl := wz_u wz' w'
    have rg : 0 ≤ gI h2 97 i ∧ gI h2 97 i ≤ 8 := gI_rg (a := 97) (n := 150) hO2 (by decide) rfl (by decide) _
    have f2 : fO h2 z 2 = fO h1 z 2 := fO_eA (e2 2 (by decide))
    have f1 : fO h2 z 1 = fO h1 z 1 := fO_eA (e2 1 (by decide))
    intro q
    rw [T.c k (by omega)]
    by_cases p : i < fO h 15 1
    · obtain ⟨y, wy, -⟩ := W i h0 p
      obtain rfl := wz_u w1 (kW i y h0 p wy).1
      have e := ow i z h0 p wy
      have g2 : fO h1 z 2 = fO h z 2 := fO_eA (e 2 (by decide))
      have g1 : fO h1 z 1 = fO h z 1 := fO_eA (e 1 (by decide))
      have s := S.1 i z h0 p wy (by omega)
      rw [f2, g2]
      exact s.c (fun k hk => (e2 k hk).trans (e k hk)) ⟨gI_e a17 _, gV_e a17 _⟩ ⟨gI_e a18 _, gV_e a18 _⟩
    · have s := hn i z (by omega) h1' w1 (by omega)
      rw [f2]
      exact s.c e2 ⟨gI_e b17 _, gV_e b17 _⟩ ⟨gI_e b18 _, gV_e b18 _⟩
  · by_cases p : i < fO h 15 1
    · rw [v i h0 p]
      rcases S.2 i h0 p with q | q
      · exact Or.inl q
      · refine Or.inr ⟨q.1, ?_⟩
        rw [gI_e a17]
        exact q.2
    · exact hr i (by omega) h1'
theorem OW3.ws {h h' : aH} (hO : OK h) (g : OW3 h h' h.length) : ∀ (i : Int) z, 0 ≤ i → i < fO h 15 1 → wz h i z → ∀ k, k < 13 → fA h' z k = fA h z k := fun i z _ _ w => by
  have o := wz_ok hO w
  exact (g z o.1 o.2 (tg_0 o.2)).2
theorem SLm.k {h h' : aH} (g : SLm h) (a : arI h' 102 = arI h 102) (b : arI h' 91 = arI h 91) (n : fI h' 38 = fI h 38) : SLm h' := ⟨fun i i0 i1 => by
  rw [gI_e a]
  exact g.1 i i0 (by omega), fun r r0 r1 => by
  rw [gI_e b]
  exact g.2 r r0 r1⟩
theorem SLm.rg {h h' : aH} {a1 v : Int32} (g : SLm h) (hO : OK h) (a : arI h' 102 = arI h 102) (b : arI h' 91 = (arI h 91).set a1.toInt.toNat v) (n : fI h' 38 = fI h 38) (hr : 0 ≤ a1.toInt ∧ a1.toInt ≤ 19) (hv : v.toInt = 1 ∨ v.toInt = 2) : SLm h' := ⟨fun i i0 i1 => by
  rw [gI_e a]
  exact g.1 i i0 (by omega), fun r r0 r1 => by
  have x := gI_st (j := r) hO (by decide) (n := 20) rfl b (by omega) r0
  by_cases q : r = a1.toInt
  · rw [x.1 q]
    omega
  · rw [x.2 q]
    exact g.2 r r0 r1⟩
theorem VK.rf {h : aH} : VK h h := ⟨fun _ _ => rfl, fun _ => rfl, fun _ => rfl⟩
end TYL
