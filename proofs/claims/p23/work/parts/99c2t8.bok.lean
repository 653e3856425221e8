/-! THE BOOK of the class; printed by program but for its head -/
section BOK
/-! THE BOOK: what a reckoning gives, the spans of words -/
def nuY (y m d r : Int32) : Int → Int32 := fun j => if j = 7 then y else if j = 8 then m else if j = 5 then d else if j = 9 then r else 0
def hldI (x : Int) : Int := if x < -2000000 then -2000000 else if 2000000 < x then 2000000 else x
def rck (ls : List (List (Int × Int) × List (Int × Int))) (y m d r : Int32) : Int := hldI (if ls = [] then 360 * y + 30 * m + d else tvl (nuY y m d r) ls).toInt
/-- field k of an object as an int -/
def fV (h : aH) (z k : Nat) : Int32 := match fA h z k with
  | some (.inl x) => x
  | _ => 0
theorem fV_of {h : aH} {z ci k : Nat} {fs : List aV} {x : Int32} (hc : h[z]? = some (.inl (ci, fs))) (hx : fs[k]? = some (.inl x)) : fV h z k = x := by
  unfold fV
  rw [fA_of hc, hx]
theorem fV_e {h h' : aH} {z k : Nat} (e : fA h' z k = fA h z k) : fV h' z k = fV h z k := by
  unfold fV
  rw [e]
theorem cfl_nil {n : Nat} {ls : List (List (Int × Int) × List (Int × Int))} : cfl n ls = [] ↔ ls = [] := by
  cases ls with
  | nil => exact ⟨fun _ => rfl, fun _ => rfl⟩
  | cons l ls =>
    refine ⟨fun h => ?_, fun h => absurd h (by simp)⟩
    have h : cln n l ++ cfl (n + (cln n l).length) ls = [] := h
    unfold cln at h
    simp at h
theorem nuC_Y {h : aH} (hO : OK h) {xs : List Int32} {y m d r : Int32} (e : arI h 20 = (((xs.set 7 y).set 8 m).set 5 d).set 9 r) : nuC h 20 = nuY y m d r := by
  obtain ⟨L, hc, hn, hz⟩ := hO.inz (hO.fix 20 (by decide) rfl)
  have eL : L = (((xs.set 7 y).set 8 m).set 5 d).set 9 r := (arI_of hc).symm.trans e
  have hx : xs.length = 10 := by
    rw [eL] at hn
    simpa using hn
  have z : ∀ i ∈ zI 20, L.getD i 0 = 0 := hz
  funext j
  unfold nuC nuY
  rw [arI_of hc]
  by_cases a7 : j = 7
  · subst a7
    rw [if_pos rfl, eL]
    simp [List.getElem?_set, hx]
  rw [if_neg a7]
  by_cases a8 : j = 8
  · subst a8
    rw [if_pos rfl, eL]
    simp [List.getElem?_set, hx]
  rw [if_neg a8]
  by_cases a5 : j = 5
  · subst a5
    rw [if_pos rfl, eL]
    simp [List.getElem?_set, hx]
  rw [if_neg a5]
  by_cases a9 : j = 9
  · subst a9
    rw [if_pos rfl, eL]
    simp [List.getElem?_set, hx]
  rw [if_neg a9]
  by_cases big : 10 ≤ j.toNat
  · rw [List.getD_eq_getElem?_getD, List.getElem?_eq_none (by omega)]
    rfl
  · refine z j.toNat ?_
    rcases (show j.toNat = 0 ∨ j.toNat = 1 ∨ j.toNat = 2 ∨ j.toNat = 3 ∨ j.toNat = 4 ∨ j.toNat = 6 by omega) with q | q | q | q | q | q <;> rw [q] <;> decide
theorem rck_t {ls : List (List (Int × Int) × List (Int × Int))} {y m d r x v : Int32} (hn : ls ≠ []) (hv : v = tvl (nuY y m d r) ls) (hx : x.toInt = hldI v.toInt) : x.toInt = rck ls y m d r := by
  unfold rck
  rw [if_neg hn, hx, hv]
theorem rck_n {ls : List (List (Int × Int) × List (Int × Int))} {y m d r x v a b c : Int32} (hn : ls = []) (e1 : 360 * y = a) (e2 : 30 * m = b) (e3 : a + b = c) (e4 : c + d = v) (hx : x.toInt = hldI v.toInt) : x.toInt = rck ls y m d r := by
  unfold rck
  rw [if_pos hn, hx, ← e4, ← e3, ← e2, ← e1]
/-- the reign of a word is told -/
def tdR (h : aH) (re : Int) : Prop := (0 ≤ re ∧ re ≤ 19) ∧ gI h 17 re ≠ -1
def gV (h : aH) (a : Nat) (j : Int) : Int32 := (arI h a).getD j.toNat 0
theorem gV_of {h : aH} {a kd : Nat} {xs : List Int32} {j x : Int32} {v : Int} (hc : h[a]? = some (.inr (kd, .inl xs))) (hx : xs[j.toInt.toNat]? = some x) (hv : v = j.toInt) : gV h a v = x := by
  subst hv
  unfold gV
  rw [arI_of hc, List.getD_eq_getElem?_getD, hx]
  rfl
theorem gV_e {h h' : aH} {a : Nat} (e : arI h' a = arI h a) (j : Int) : gV h' a j = gV h a j := by
  unfold gV
  rw [e]
/-- the spans of a word that is not copied, by the lines of its people's reckoning -/
def SPz (h : aH) (z : Nat) (ls : List (List (Int × Int) × List (Int × Int))) : Prop :=
  (¬ tdR h (fO h z 3) → fO h z 10 = 1 ∧ fO h z 11 = rck ls (fV h z 5) (fV h z 6) (fV h z 7) 0) ∧
  (tdR h (fO h z 3) → gI h 18 (fO h z 3) = -1 → fO h z 10 = 1 ∧ fO h z 11 = rck ls (fV h z 5) (fV h z 6) (fV h z 7) (gV h 17 (fO h z 3))) ∧
  (tdR h (fO h z 3) → gI h 18 (fO h z 3) ≠ -1 → fO h z 10 = 2 ∧ fO h z 11 = rck ls (fV h z 5) (fV h z 6) (fV h z 7) (gV h 17 (fO h z 3)) ∧ fO h z 12 = rck ls (fV h z 5) (fV h z 6) (fV h z 7) (gV h 18 (fO h z 3)))
theorem SPz.c {h h' : aH} {z : Nat} {ls : List (List (Int × Int) × List (Int × Int))} (g : SPz h z ls) (e : ∀ k, k < 13 → fA h' z k = fA h z k) (e7 : gI h' 17 (fO h z 3) = gI h 17 (fO h z 3) ∧ gV h' 17 (fO h z 3) = gV h 17 (fO h z 3)) (e8 : gI h' 18 (fO h z 3) = gI h 18 (fO h z 3) ∧ gV h' 18 (fO h z 3) = gV h 18 (fO h z 3)) : SPz h' z ls := by
  unfold SPz tdR at g ⊢
  rw [fO_eA (e 3 (by decide)), fO_eA (e 10 (by decide)), fO_eA (e 11 (by decide)), fO_eA (e 12 (by decide)), fV_e (e 5 (by decide)), fV_e (e 6 (by decide)), fV_e (e 7 (by decide)), e7.1, e7.2, e8.1, e8.2]
  exact g
/-- objects of words but one stay, with all their fields -/
def OW3 (h h' : aH) (x : Nat) : Prop := ∀ z : Nat, 114 ≤ z → tg h z = (110, 13) → z ≠ x → tg h' z = (110, 13) ∧ ∀ k, k < 13 → fA h' z k = fA h z k
theorem OW3.rf {h : aH} {x : Nat} : OW3 h h x := fun _ _ t _ => ⟨t, fun _ _ => rfl⟩
theorem OW3.tr {a b c : aH} {x : Nat} (g : OW3 a b x) (k : OW3 b c x) : OW3 a c x := fun z h1 h2 h3 => by
  obtain ⟨t, e⟩ := g z h1 h2 h3
  obtain ⟨t2, e2⟩ := k z h1 t h3
  exact ⟨t2, fun i hi => (e2 i hi).trans (e i hi)⟩
theorem OW3.st {h h' : aH} {a x : Nat} (en : ∀ b, b ≠ a → h'[b]? = h[b]?) (ha : a < 114 ∨ a = x) : OW3 h h' x := fun z h1 h2 h3 => by
  have e := en z (by omega)
  refine ⟨?_, fun k _ => fA_c e k⟩
  unfold tg
  rw [e]
  exact h2
theorem fA_un3 {W : List Nat} {h h' : aH} {z k : Nat} (hO : OK h) (g : un W h h') (gz : 114 ≤ z) (t : tg h z = (110, 13)) (hk : k < 13) (hw : 22000 + k ∉ W) : fA h' z k = fA h z k := by
  obtain ⟨fs, c1, e1, -⟩ := hO.obj (ci := 10) (n := 13) t (by decide)
  obtain ⟨c', d1, d2, d3⟩ := g.1 z _ c1
  match c', d1, d3 with
  | .inl (ci, gs), d1, d3 =>
    have d3 : ∀ k : Nat, scr 10 k = true ∨ 1000 + 100 * wid z (100 + 10, fs.length) + k ∈ W ∨ fs[k]? = gs[k]? := d3
    rw [fA_of c1, fA_of d1]
    rcases d3 k with q | q | q
    · exact absurd q (by rw [(show ∀ k, k < 13 → scr 10 k = false by decide) k hk]; decide)
    · rw [show wid z (100 + 10, fs.length) = 210 by rw [e1]; exact wid_w gz] at q
      exact absurd q (by rw [show 1000 + 100 * 210 + k = 22000 + k by omega]; exact hw)
    · exact q.symm
theorem OW3.un {W : List Nat} {h h' : aH} {x : Nat} (hO : OK h) (g : un W h h') (hw : ∀ k, k < 13 → 22000 + k ∉ W) : OW3 h h' x := fun z h1 h2 h3 => ⟨g.tm h2 (by decide), fun k hk => fA_un3 hO g h1 h2 hk (hw k hk)⟩
theorem txC_L {h : aH} (hO : OK h) {a : Nat} (t : tg h a = (109, 2)) : ((txC h a).length : Int) = fO h a 1 := by
  obtain ⟨g, l, hc, t2, b⟩ := hO.text t
  obtain ⟨xs, hd, hn, -⟩ := hO.int t2
  unfold txC
  rw [List.length_map, List.length_take, arI_of hd, hn, fO_of (k := 1) hc rfl]
  omega
def TXF (h : aH) (L : Nat → List (List (Int × Int) × List (Int × Int))) : Prop := ∀ n, n ≤ 8 → txC h (23 + 2 * n) = cfl 0 (L n) ∧ ∀ l ∈ L n, lnG l
/-- of the words up to i those of P are settled, the others are as they were -/
def SWq (h0 h : aH) (L : Nat → List (List (Int × Int) × List (Int × Int))) (P : Nat → Prop) (i : Int) : Prop := (∀ (j : Int) z, 0 ≤ j → j < i → wz h0 j z → P z → fO h0 z 1 ≠ 3 → SPz h z (L (fO h0 z 2).toNat)) ∧ (∀ z, 114 ≤ z → tg h0 z = (110, 13) → ¬ P z → ∀ k, k < 13 → fA h z k = fA h0 z k) ∧ (∀ z, 114 ≤ z → tg h0 z = (110, 13) → ∀ k, k < 10 → fA h z k = fA h0 z k)
theorem SWq.z {h : aH} {L : Nat → List (List (Int × Int) × List (Int × Int))} {P : Nat → Prop} {i : Int} (e : i = 0) : SWq h h L P i := ⟨fun j z h0 h1 => by omega, fun _ _ _ _ _ _ => rfl, fun _ _ _ _ _ => rfl⟩
theorem SWq.c {h0 h : aH} {L : Nat → List (List (Int × Int) × List (Int × Int))} {P : Nat → Prop} {i i' : Int} (H : SWq h0 h L P i) (e : i' ≤ i) : SWq h0 h L P i' := ⟨fun j z a b => H.1 j z a (by omega), H.2⟩
theorem SWq.sk {h0 h : aH} {L : Nat → List (List (Int × Int) × List (Int × Int))} {P : Nat → Prop} {i i' : Int} (H : SWq h0 h L P i) (hn : ∀ z, wz h0 i z → ¬ P z) (e : i' = i + 1) : SWq h0 h L P i' := by
  subst e
  refine ⟨fun j z a b w p => ?_, H.2⟩
  by_cases q : j < i
  · exact H.1 j z a q w p
  · obtain rfl : j = i := by omega
    exact absurd p (hn z w)
theorem SWq.s {h0 h h' : aH} {L : Nat → List (List (Int × Int) × List (Int × Int))} {P : Nat → Prop} {i i' : Int} {y : Nat} (H : SWq h0 h L P i) (hO : OK h0) (w : wz h0 i y) (hP : P y) (hS : fO h y 1 ≠ 3 → SPz h' y (L (fO h y 2).toNat)) (k10 : ∀ k, k < 10 → fA h' y k = fA h y k) (ow : OW3 h h' y) (e7 : arI h' 17 = arI h 17) (e8 : arI h' 18 = arI h 18) (ht : ∀ z, tg h0 z = (110, 13) → tg h z = (110, 13)) (e : i' = i + 1) : SWq h0 h' L P i' := by
  subst e
  have ty := wz_ok hO w
  refine ⟨fun j z a b wz' p k => ?_, fun z g t n k hk => ?_, fun z g t k hk => ?_⟩
  · have tz := wz_ok hO wz'
    by_cases q : z = y
    · subst q
      have f := H.2.2 z tz.1 tz.2
      have s := hS (by rw [fO_eA (f 1 (by decide))]; exact k)
      rw [fO_eA (f 2 (by decide))] at s
      exact s
    · have r : j < i := by
        by_cases r : j < i
        · exact r
        · obtain rfl : j = i := by omega
          exact absurd (wz_u wz' w) q
      exact (H.1 j z a r wz' p k).c (ow z tz.1 (ht z tz.2) q).2 ⟨gI_e e7 _, gV_e e7 _⟩ ⟨gI_e e8 _, gV_e e8 _⟩
  · have q : z ≠ y := fun q => n (q ▸ hP)
    exact ((ow z g (ht z t) q).2 k hk).trans (H.2.1 z g t n k hk)
  · by_cases q : z = y
    · subst q
      exact (k10 k hk).trans (H.2.2 z g t k hk)
    · exact ((ow z g (ht z t) q).2 k (by omega)).trans (H.2.2 z g t k hk)
theorem txm_q {n : Nat} (h : n ≤ 8) : 23 + 2 * n ∈ TXQ := by
  rcases (show n = 0 ∨ n = 1 ∨ n = 2 ∨ n = 3 ∨ n = 4 ∨ n = 5 ∨ n = 6 ∨ n = 7 ∨ n = 8 by omega) with q | q | q | q | q | q | q | q | q <;> rw [q] <;> decide
theorem TXF.un {W : List Nat} {h h' : aH} {L : Nat → List (List (Int × Int) × List (Int × Int))} (H : TXF h L) (hO : OK h) (hO' : OK h') (g : un W h h') (w : ∀ q ∈ TXQ, q + 1 ∉ W ∧ 1000 + 100 * q + 1 ∉ W) : TXF h' L := fun n hn => ⟨(txC_un hO hO' g w _ (txm_q hn)).trans (H n hn).1, (H n hn).2⟩
theorem RG.m {h0 h1 h' : aH} {L : Nat → List (List (Int × Int) × List (Int × Int))} {r : Nat} {d o : Int32} {P : aH → Nat → Prop} {n n' : Int} (ow : OW3 h0 h1 0) (ar : arR h1 16 = arR h0 16) (e7 : arI h1 17 = arI h0 17) (e8 : arI h1 18 = arI h0 18) (en : n' ≤ n) (H : ∃ hm, OK hm ∧ OW3 h1 hm 0 ∧ arR hm 16 = arR h1 16 ∧ arI hm 17 = (arI h1 17).set r d ∧ arI hm 18 = (arI h1 18).set r o ∧ SWq hm h' L (P hm) n ∧ arI h' 17 = arI hm 17 ∧ arI h' 18 = arI hm 18) : ∃ hm, OK hm ∧ OW3 h0 hm 0 ∧ arR hm 16 = arR h0 16 ∧ arI hm 17 = (arI h0 17).set r d ∧ arI hm 18 = (arI h0 18).set r o ∧ SWq hm h' L (P hm) n' ∧ arI h' 17 = arI hm 17 ∧ arI h' 18 = arI hm 18 := by
  obtain ⟨hm, a, b, c, d, e, f, g, k⟩ := H
  exact ⟨hm, a, ow.tr b, c.trans ar, d.trans (by rw [e7]), e.trans (by rw [e8]), f.c en, g, k⟩
theorem NS.s {h0 h h' : aH} {L : Nat → List (List (Int × Int) × List (Int × Int))} (hO : OK h) (hN : NA h) (H : ∀ j : Nat, (j : Int) < fO h 15 1 - fO h0 15 1 → ∀ z, wz h (fO h0 15 1 + (j : Int)) z → fO h z 1 ≠ 3 → SPz h z (L (fO h z 2).toNat)) (ow : OW3 h h' h.length) (hn : imG (fO h' 15 1 = fO h 15 1 + 1) (∀ z, wz h' (fO h 15 1) z → fO h' z 1 ≠ 3 → SPz h' z (L (fO h' z 2).toNat))) (kw : KWc h h') (e7 : arI h' 17 = arI h 17) (e8 : arI h' 18 = arI h 18) (n0 : 0 ≤ fO h0 15 1) (n1 : fO h0 15 1 ≤ fO h 15 1) (n2 : fO h' 15 1 = fO h 15 1 + 1 ∨ fO h' 15 1 = fO h 15 1) : ∀ j : Nat, (j : Int) < fO h' 15 1 - fO h0 15 1 → ∀ z, wz h' (fO h0 15 1 + (j : Int)) z → fO h' z 1 ≠ 3 → SPz h' z (L (fO h' z 2).toNat) := fun j hj z w k => by
  by_cases q : (j : Int) < fO h 15 1 - fO h0 15 1
  · obtain ⟨y, wy⟩ := hN (fO h0 15 1 + (j : Int)).toNat (by omega)
    have wy : wz h (fO h0 15 1 + (j : Int)) y := wy
    have w2 := (kw _ y (by omega) (by omega) wy).1
    obtain rfl := wz_u w2 w
    have t := wz_ok hO wy
    have hne : y ≠ h.length := fun e => by
      have t2 := t.2
      unfold tg at t2
      rw [List.getElem?_eq_none (by omega)] at t2
      exact absurd (congrArg Prod.fst t2) (by decide)
    have f := (ow y t.1 t.2 hne).2
    rw [fO_eA (f 1 (by decide))] at k
    rw [fO_eA (f 2 (by decide))]
    exact (H j q y wy k).c f ⟨gI_e e7 _, gV_e e7 _⟩ ⟨gI_e e8 _, gV_e e8 _⟩
  · obtain e : fO h0 15 1 + (j : Int) = fO h 15 1 := by omega
    have n3 : fO h' 15 1 = fO h 15 1 + 1 := by omega
    rw [e] at w
    exact hn n3 z w k
theorem OWs.s {h0 h h' : aH} (hO0 : OK h0) (hO : OK h) (H : ∀ (i : Int) z, 0 ≤ i → i < fO h0 15 1 → wz h0 i z → ∀ k, k < 13 → fA h z k = fA h0 z k) (ow : OW3 h h' h.length) (kw : KWc h0 h) (n1 : fO h0 15 1 ≤ fO h 15 1) : ∀ (i : Int) z, 0 ≤ i → i < fO h0 15 1 → wz h0 i z → ∀ k, k < 13 → fA h' z k = fA h0 z k := fun i z i0 i1 w k hk => by
  have w1 := (kw i z i0 i1 w).1
  have t := wz_ok hO w1
  have hne : z ≠ h.length := fun e => by
    have t2 := t.2
    unfold tg at t2
    rw [List.getElem?_eq_none (by omega)] at t2
    exact absurd (congrArg Prod.fst t2) (by decide)
  exact ((ow z t.1 t.2 hne).2 k hk).trans (H i z i0 i1 w k hk)
theorem un_w {k : Nat} (hk : k < 10) : 22000 + k ∉ [22010, 22011, 22012] := fun h => by
  simp at h
  omega
theorem fA_10 {h h' : aH} {z : Nat} {nu ki pe re sl y m dd mo sp mi om sp' mi' om' : Int32} {cr : Option Nat} (c' : h'[z]? = some (.inl (10, [.inl nu, .inl ki, .inl pe, .inl re, .inl sl, .inl y, .inl m, .inl dd, .inl mo, .inr (.inr cr), .inl sp', .inl mi', .inl om']))) (c : h[z]? = some (.inl (10, [.inl nu, .inl ki, .inl pe, .inl re, .inl sl, .inl y, .inl m, .inl dd, .inl mo, .inr (.inr cr), .inl sp, .inl mi, .inl om]))) {k : Nat} (hk : k < 10) : fA h' z k = fA h z k := by
  rw [fA_of c', fA_of c]
  match k, hk with
  | 0, _ => rfl
  | 1, _ => rfl
  | 2, _ => rfl
  | 3, _ => rfl
  | 4, _ => rfl
  | 5, _ => rfl
  | 6, _ => rfl
  | 7, _ => rfl
  | 8, _ => rfl
  | 9, _ => rfl
  | n + 10, h => exact absurd h (by omega)
theorem SPz.n {h h' : aH} {z : Nat} {ls : List (List (Int × Int) × List (Int × Int))} {c m o : Int32} (e : ∀ k, k < 10 → fA h' z k = fA h z k) (e7 : arI h' 17 = arI h 17) (k10 : fA h' z 10 = some (.inl c)) (k11 : fA h' z 11 = some (.inl m)) (_ : fA h' z 12 = some (.inl o)) (hn : ¬ tdR h (fO h z 3)) (hc : c.toInt = 1) (hm : m.toInt = rck ls (fV h z 5) (fV h z 6) (fV h z 7) 0) : SPz h' z ls := by
  have n' : ¬ tdR h' (fO h' z 3) := by
    unfold tdR at hn ⊢
    rw [fO_eA (e 3 (by decide)), gI_e e7]
    exact hn
  refine ⟨fun _ => ?_, fun q => absurd q n', fun q => absurd q n'⟩
  rw [fO_fA k10, fO_fA k11, fV_e (e 5 (by decide)), fV_e (e 6 (by decide)), fV_e (e 7 (by decide))]
  exact ⟨hc, hm⟩
theorem SPz.o {h h' : aH} {z : Nat} {ls : List (List (Int × Int) × List (Int × Int))} {c m o : Int32} (e : ∀ k, k < 10 → fA h' z k = fA h z k) (e7 : arI h' 17 = arI h 17) (e8 : arI h' 18 = arI h 18) (k10 : fA h' z 10 = some (.inl c)) (k11 : fA h' z 11 = some (.inl m)) (_ : fA h' z 12 = some (.inl o)) (ht : tdR h (fO h z 3)) (h1 : gI h 18 (fO h z 3) = -1) (hc : c.toInt = 1) (hm : m.toInt = rck ls (fV h z 5) (fV h z 6) (fV h z 7) (gV h 17 (fO h z 3))) : SPz h' z ls := by
  have n' : tdR h' (fO h' z 3) := by
    unfold tdR at ht ⊢
    rw [fO_eA (e 3 (by decide)), gI_e e7]
    exact ht
  refine ⟨fun q => absurd n' q, fun _ _ => ?_, fun _ q => ?_⟩
  · rw [fO_fA k10, fO_fA k11, fV_e (e 5 (by decide)), fV_e (e 6 (by decide)), fV_e (e 7 (by decide)), gV_e e7, fO_eA (e 3 (by decide))]
    exact ⟨hc, hm⟩
  · rw [fO_eA (e 3 (by decide)), gI_e e8] at q
    exact absurd h1 q
theorem SPz.t {h h' : aH} {z : Nat} {ls : List (List (Int × Int) × List (Int × Int))} {c m o : Int32} (e : ∀ k, k < 10 → fA h' z k = fA h z k) (e7 : arI h' 17 = arI h 17) (e8 : arI h' 18 = arI h 18) (k10 : fA h' z 10 = some (.inl c)) (k11 : fA h' z 11 = some (.inl m)) (k12 : fA h' z 12 = some (.inl o)) (ht : tdR h (fO h z 3)) (h1 : gI h 18 (fO h z 3) ≠ -1) (hc : c.toInt = 2) (hm : m.toInt = rck ls (fV h z 5) (fV h z 6) (fV h z 7) (gV h 17 (fO h z 3))) (ho : o.toInt = rck ls (fV h z 5) (fV h z 6) (fV h z 7) (gV h 18 (fO h z 3))) : SPz h' z ls := by
  have n' : tdR h' (fO h' z 3) := by
    unfold tdR at ht ⊢
    rw [fO_eA (e 3 (by decide)), gI_e e7]
    exact ht
  refine ⟨fun q => absurd n' q, fun _ q => ?_, fun _ _ => ?_⟩
  · rw [fO_eA (e 3 (by decide)), gI_e e8] at q
    exact absurd q h1
  · rw [fO_fA k10, fO_fA k11, fO_fA k12, fV_e (e 5 (by decide)), fV_e (e 6 (by decide)), fV_e (e 7 (by decide)), gV_e e7, gV_e e8, fO_eA (e 3 (by decide))]
    exact ⟨hc, hm, ho⟩
set_option maxRecDepth 20000 in
set_option maxHeartbeats 4000000 in
theorem st_X9_isTold {d kc ks : Nat} {h0 : aH} {Q : Option aV → aH → Prop} (hO0 : OK h0) {a0 : Nat} (t0 : tg h0 a0 = (109, 2)) (hQ : ∀ r, (∃ q, r = some (.inl (bi q)) ∧ (q = true → 0 < fO h0 a0 1) ∧ (q = false → fO h0 a0 1 ≤ 0)) → Q r h0) : uCall Mt (d + 1) 109 [(.inr (.inr (some a0)))] h0 kc ks Q := by
  have l_0 : ((0) : Int32).toInt = 0 := by decide
  have l_1 : ((1) : Int32).toInt = 1 := by decide
  refine uc_ink [some (.inr (.inr (some a0)))] mt_109 (Nat.le_of_ble_eq_true rfl) rfl ?_
  obtain ⟨g5, f2, hc1, k3, k4⟩ := hO0.text t0
  have t6 := fO_of (k := 1) hc1 rfl
  refine ur_ldA rfl rfl ?_
  refine ur_get rfl hc1 rfl ?_
  refine ur_if1 rfl (fun c7 => ?_) (fun c7 => ?_)
  · have t8 := le_to c7
    refine ur_push rfl ?_
    exact ur_ret rfl rfl (hQ _ ⟨false, rfl, fun e => absurd e (by decide), fun _ => by omega⟩ )
  · have t9 := le_no c7
    refine ur_push rfl ?_
    refine ur_go rfl ?_
    exact ur_ret rfl rfl (hQ _ ⟨true, rfl, fun _ => by omega, fun e => absurd e (by decide)⟩ )

set_option maxRecDepth 20000 in
set_option maxHeartbeats 4000000 in
theorem st_X1_reckonedDay {d kc ks : Nat} {h0 : aH} {Q : Option aV → aH → Prop} {ls : List (List (Int × Int) × List (Int × Int))} (hO0 : OK h0) {a1 : Nat} (g1 : 114 ≤ a1) (t1 : tg h0 a1 = (110, 13)) (a2 : Int32) (pre0 : txC h0 (23 + 2 * (fO h0 a1 2).toNat) = cfl 0 ls) (pre1 : ∀ l ∈ ls, lnG l) (hQ : ∀ r h', (∃ x : Int32, r = some (.inl x) ∧ (x.toInt = rck ls (fV h0 a1 5) (fV h0 a1 6) (fV h0 a1 7) a2)) → OK h' → un [] h0 h' → Q r h') : uCall Mt (d + 4) 15 [(.inr (.inr (some 15))), (.inr (.inr (some a1))), (.inl a2)] h0 kc ks Q := by
  have l_m2000000 : ((-2000000) : Int32).toInt = -2000000 := by decide
  have l_5 : ((5) : Int32).toInt = 5 := by decide
  have l_7 : ((7) : Int32).toInt = 7 := by decide
  have l_8 : ((8) : Int32).toInt = 8 := by decide
  have l_9 : ((9) : Int32).toInt = 9 := by decide
  have l_30 : ((30) : Int32).toInt = 30 := by decide
  have l_360 : ((360) : Int32).toInt = 360 := by decide
  have l_2000000 : ((2000000) : Int32).toInt = 2000000 := by decide
  refine uc_ink [some (.inr (.inr (some 15))), some (.inr (.inr (some a1))), some (.inl a2), none, none] mt_15 (Nat.le_of_ble_eq_true rfl) rfl ?_
  obtain ⟨g17, f2, f3, f4, f5, f6, f7, f8, f9, f10, o14, f11, f12, f13, hc1, k15, k16⟩ := hO0.word t1
  have e18 : fV h0 a1 2 = f4 := fV_of hc1 rfl
  have e19 : fV h0 a1 3 = f5 := fV_of hc1 rfl
  have e20 : fV h0 a1 5 = f7 := fV_of hc1 rfl
  have e21 : fV h0 a1 6 = f8 := fV_of hc1 rfl
  have e22 : fV h0 a1 7 = f9 := fV_of hc1 rfl
  have t23 := fO_of (k := 2) hc1 rfl
  refine ur_ldA rfl rfl ?_
  refine ur_ldA rfl rfl ?_
  refine ur_get rfl hc1 rfl ?_
  obtain ⟨f25, f26, f27, f28, hc24, k29⟩ := ok_15 hO0
  refine ur_inl rfl (rcv_of hc24) (Nat.le_of_ble_eq_true rfl) (Nat.le_of_ble_eq_true rfl) (st_X1_reckoningOf hO0 _ (fun w30 hr31 => ?_))
  obtain ⟨o32, rfl, k33, t34, t35⟩ := hr31
  show uRun _ (uCall Mt _) _ 8 (_, [(.inr (.inr o32))], _, _, _)
  refine ur_svAk [some (.inr (.inr (some 15))), some (.inr (.inr (some a1))), some (.inl a2), some (.inr (.inr o32)), none] rfl rfl ?_
  refine ur_push rfl ?_
  refine ur_ldA rfl rfl ?_
  refine ur_get rfl hc1 rfl ?_
  refine ur_binV rfl (fun x36 e37 => ?_)
  have z38 := any_r f7
  refine ur_push rfl ?_
  refine ur_ldA rfl rfl ?_
  refine ur_get rfl hc1 rfl ?_
  refine ur_binV rfl (fun x39 e40 => ?_)
  have z41 := any_r f8
  refine ur_binV rfl (fun x42 e43 => ?_)
  have z44 := any_r x36
  have z45 := any_r x39
  refine ur_ldA rfl rfl ?_
  refine ur_get rfl hc1 rfl ?_
  refine ur_binV rfl (fun x46 e47 => ?_)
  have z48 := any_r x42
  have z49 := any_r f9
  refine ur_svIk [some (.inr (.inr (some 15))), some (.inr (.inr (some a1))), some (.inl a2), some (.inr (.inr o32)), some (.inl x46)] rfl rfl ?_
  refine ur_ldA rfl rfl ?_
  cases o32 with
  | none =>
    refine ur_nulN rfl ?_
    have t51 := t34 rfl
    refine ur_push rfl ?_
    refine ur_push rfl ?_
    refine ur_ldI rfl rfl ?_
    refine ur_minV rfl (by show ¬ 9 ≤ 3; decide) (fun x52 t53 e54 => ?_)
    refine ur_maxV rfl (by show ¬ 9 ≤ 2; decide) (fun x55 t56 e57 => ?_)
    exact ur_ret rfl rfl (hQ _ _ ⟨_, rfl, (by exfalso; omega)⟩ hO0 un.rf)
  | some r50 =>
    refine ur_nulS rfl ?_
    have k58 := k33 _ rfl
    have t59 := t35 _ rfl
    have e60 : r50 = 23 + 2 * (fO h0 a1 2).toNat := by omega
    have t61 : ((txC h0 r50).length : Int) = fO h0 r50 1 := txC_L hO0 k58.2
    have e62 : txC h0 r50 = cfl 0 ls := by rw [e60]; exact pre0
    refine ur_ldA rfl rfl ?_
    obtain ⟨g67, f64, hc63, k65, k66⟩ := hO0.text k58.2
    refine ur_inl rfl (rcv_of hc63) (Nat.le_of_ble_eq_true rfl) (Nat.le_of_ble_eq_true rfl) (st_X9_isTold hO0 k58.2 (fun w68 hr69 => ?_))
    obtain ⟨b70, rfl, t71, t72⟩ := hr69
    show uRun _ (uCall Mt _) _ 40 (_, [(.inl (bi b70))], _, _, _)
    refine ur_eqB rfl (fun c73 => ?_) (fun c73 => ?_)
    · have t74 := t72 c73
      clear t71 t72
      refine ur_push rfl ?_
      refine ur_push rfl ?_
      refine ur_ldI rfl rfl ?_
      refine ur_minV rfl (by show ¬ 9 ≤ 3; decide) (fun x75 t76 e77 => ?_)
      refine ur_maxV rfl (by show ¬ 9 ≤ 2; decide) (fun x78 t79 e80 => ?_)
      exact ur_ret rfl rfl (hQ _ _ ⟨_, rfl, (by rw [e20, e21, e22]; exact rck_n (cfl_nil.mp (e62.symm.trans (List.length_eq_zero_iff.mp (by omega)))) e37 e40 e43 e47 (by unfold hldI; omega))⟩ hO0 un.rf)
    · have t81 := t71 c73
      clear t71 t72
      refine ur_ldA rfl rfl ?_
      refine ur_get rfl hc24 rfl ?_
      refine ur_push rfl ?_
      refine ur_ldA rfl rfl ?_
      refine ur_get rfl hc1 rfl ?_
      obtain ⟨xs83, hc82, hn84, he85⟩ := hO0.int (hO0.fix 20 (by decide) rfl)
      refine ur_astG (W := []) (m := 10) rfl hO0 hc82 (by decide) hn84 (by omega) (any_r _) (Or.inl rfl) (fun _ => by decide) (fun h88 hO88 hu88 d86 hc87 => ?_)
      have w89 : wI h0 h88 20 ((arI h0 20).set (7 : Int32).toInt.toNat f7) := ⟨by rw [arI_of hc87, arI_of hc82], d86⟩
      refine ur_ldA rfl rfl ?_
      refine ur_get rfl ((d86 _ (by decide)).trans hc24) rfl ?_
      refine ur_push rfl ?_
      refine ur_ldA rfl rfl ?_
      refine ur_get rfl ((d86 _ (ne_tg (hu88.tm t1 (by decide)) (hO88.fix 20 (by decide) rfl) (by decide))).trans hc1) rfl ?_
      obtain ⟨xs91, hc90, hn92, he93⟩ := hO88.int (hO88.fix 20 (by decide) rfl)
      refine ur_astG (W := []) (m := 10) rfl hO88 hc90 (by decide) hn92 (by omega) (any_r _) (Or.inl rfl) (fun _ => by decide) (fun h96 hO96 hu96 d94 hc95 => ?_)
      have w97 : wI h88 h96 20 ((arI h88 20).set (8 : Int32).toInt.toNat f8) := ⟨by rw [arI_of hc95, arI_of hc90], d94⟩
      refine ur_ldA rfl rfl ?_
      refine ur_get rfl ((d94 _ (by decide)).trans ((d86 _ (by decide)).trans hc24)) rfl ?_
      refine ur_push rfl ?_
      refine ur_ldA rfl rfl ?_
      have hc98 := ((d94 _ (ne_tg (hu96.tm (hu88.tm t1 (by decide)) (by decide)) (hO96.fix 20 (by decide) rfl) (by decide))).trans ((d86 _ (ne_tg (hu88.tm t1 (by decide)) (hO88.fix 20 (by decide) rfl) (by decide))).trans hc1))
      refine ur_get rfl hc98 rfl ?_
      obtain ⟨xs100, hc99, hn101, he102⟩ := hO96.int (hO96.fix 20 (by decide) rfl)
      refine ur_astG (W := []) (m := 10) rfl hO96 hc99 (by decide) hn101 (by omega) (any_r _) (Or.inl rfl) (fun _ => by decide) (fun h105 hO105 hu105 d103 hc104 => ?_)
      have w106 : wI h96 h105 20 ((arI h96 20).set (5 : Int32).toInt.toNat f9) := ⟨by rw [arI_of hc104, arI_of hc99], d103⟩
      refine ur_ldA rfl rfl ?_
      refine ur_get rfl ((d103 _ (by decide)).trans ((d94 _ (by decide)).trans ((d86 _ (by decide)).trans hc24))) rfl ?_
      refine ur_push rfl ?_
      refine ur_ldI rfl rfl ?_
      obtain ⟨xs108, hc107, hn109, he110⟩ := hO105.int (hO105.fix 20 (by decide) rfl)
      refine ur_astG (W := []) (m := 10) rfl hO105 hc107 (by decide) hn109 (by omega) (any_r _) (Or.inl rfl) (fun _ => by decide) (fun h113 hO113 hu113 d111 hc112 => ?_)
      have w114 : wI h105 h113 20 ((arI h105 20).set (9 : Int32).toInt.toNat a2) := ⟨by rw [arI_of hc112, arI_of hc107], d111⟩
      have e115 : nuC h113 20 = nuY f7 f8 f9 a2 := nuC_Y hO113 (xs := arI h0 20) (by rw [w114.1, w106.1, w97.1, w89.1]; rfl)
      refine ur_ldA rfl rfl ?_
      refine ur_ldA rfl rfl ?_
      refine ur_get rfl ((d111 _ (by decide)).trans ((d103 _ (by decide)).trans ((d94 _ (by decide)).trans ((d86 _ (by decide)).trans hc24)))) rfl ?_
      refine ur_ldA rfl rfl ?_
      refine ur_get rfl ((d111 _ (by decide)).trans ((d103 _ (by decide)).trans ((d94 _ (by decide)).trans ((d86 _ (by decide)).trans hc24)))) rfl ?_
      have hc116 := ((d111 _ (ne_tg (hu113.tm (hu105.tm (hu96.tm (hu88.tm k58.2 (by decide)) (by decide)) (by decide)) (by decide)) (hO113.fix 20 (by decide) rfl) (by decide))).trans ((d103 _ (ne_tg (hu113.tm (hu105.tm (hu96.tm (hu88.tm k58.2 (by decide)) (by decide)) (by decide)) (by decide)) (hO113.fix 20 (by decide) rfl) (by decide))).trans ((d94 _ (ne_tg (hu113.tm (hu105.tm (hu96.tm (hu88.tm k58.2 (by decide)) (by decide)) (by decide)) (by decide)) (hO113.fix 20 (by decide) rfl) (by decide))).trans ((d86 _ (ne_tg (hu113.tm (hu105.tm (hu96.tm (hu88.tm k58.2 (by decide)) (by decide)) (by decide)) (by decide)) (hO113.fix 20 (by decide) rfl) (by decide))).trans hc63))))
      refine ur_inl rfl (rcv_of hc116) (Nat.le_of_ble_eq_true rfl) (Nat.le_of_ble_eq_true rfl) (st_X9_valueWith hO113 (hu113.tm (hu105.tm (hu96.tm (hu88.tm k58.2 (by decide)) (by decide)) (by decide)) (by decide)) (hO113.fix 20 (by decide) rfl) (hO113.fix 21 (by decide) rfl) rfl rfl ((txC_un hO0 hO113 (hu88.tr (hu96.tr (hu105.tr hu113))) (by decide) r50 (by rw [e60]; exact txm_q (by omega))).trans e62) rfl (by rw [e60]; exact txm_q (by omega)) pre1 (fun w117 h119 hr118 hO119 hv119 => ?_))
      have hu119 := hv119
      obtain ⟨x120, rfl, f121⟩ := hr118
      show uRun _ (uCall Mt _) _ 95 (_, [(.inl x120)], _, _, _)
      refine ur_svIk [some (.inr (.inr (some 15))), some (.inr (.inr (some a1))), some (.inl a2), some (.inr (.inr (some r50))), some (.inl x120)] rfl rfl ?_
      refine ur_push rfl ?_
      refine ur_push rfl ?_
      refine ur_ldI rfl rfl ?_
      refine ur_minV rfl (by show ¬ 9 ≤ 3; decide) (fun x122 t123 e124 => ?_)
      refine ur_maxV rfl (by show ¬ 9 ≤ 2; decide) (fun x125 t126 e127 => ?_)
      exact ur_ret rfl rfl (hQ _ _ ⟨_, rfl, (by rw [e20, e21, e22]; exact rck_t (fun q => by rw [q] at e62; rw [e62] at t61; have z : (0 : Int) = _ := t61; omega) (f121.trans (by rw [e115])) (by unfold hldI; omega))⟩ hO119 (hu88.tr (hu96.tr (hu105.tr (hu113.tr hu119)))))

set_option maxRecDepth 20000 in
set_option maxHeartbeats 4000000 in
theorem st_X10_settle {d kc ks : Nat} {h0 : aH} {Q : Option aV → aH → Prop} (hO0 : OK h0) {a0 : Nat} (g0 : 114 ≤ a0) (t0 : tg h0 a0 = (110, 13)) (a1 : Int32) (a2 : Int32) (a3 : Int32) (hQ : ∀ r h', (r = none) → OK h' → un [22010, 22011, 22012] h0 h' → (fA h' a0 10 = some (.inl a1) ∧ fA h' a0 11 = some (.inl a2) ∧ fA h' a0 12 = some (.inl a3)) → (∀ k, k < 10 → fA h' a0 k = fA h0 a0 k) → (OW3 h0 h' a0) → Q r h') : uCall Mt (d + 1) 118 [(.inr (.inr (some a0))), (.inl a1), (.inl a2), (.inl a3)] h0 kc ks Q := by
  refine uc_ink [some (.inr (.inr (some a0))), some (.inl a1), some (.inl a2), some (.inl a3)] mt_118 (Nat.le_of_ble_eq_true rfl) rfl ?_
  obtain ⟨g17, f2, f3, f4, f5, f6, f7, f8, f9, f10, o14, f11, f12, f13, hc1, k15, k16⟩ := hO0.word t0
  refine ur_ldA rfl rfl ?_
  refine ur_ldI rfl rfl ?_
  refine ur_putV (W := [22010]) (fs' := [(.inl f2), (.inl f3), (.inl f4), (.inl f5), (.inl f6), (.inl f7), (.inl f8), (.inl f9), (.inl f10), (.inr (.inr o14)), (.inl a1), (.inl f12), (.inl f13)]) rfl hO0 hc1 (Nat.le_of_ble_eq_true rfl) rfl rfl ⟨g17, _, _, _, _, _, _, _, _, _, _, _, _, _, rfl, k15, by omega⟩ rfl (Or.inr (by show 1000 + 100 * wid a0 (110, 13) + 10 ∈ _; rw [(wid_w g17)]; decide)) (fun h19 hO19 hv19 d18 hc20 => ?_)
  have hu19 : un [22010, 22011, 22012] h0 h19 := hv19.mono (by decide)
  refine ur_ldA rfl rfl ?_
  refine ur_ldI rfl rfl ?_
  refine ur_putV (W := [22011]) (fs' := [(.inl f2), (.inl f3), (.inl f4), (.inl f5), (.inl f6), (.inl f7), (.inl f8), (.inl f9), (.inl f10), (.inr (.inr o14)), (.inl a1), (.inl a2), (.inl f13)]) rfl hO19 hc20 (Nat.le_of_ble_eq_true rfl) rfl rfl ⟨g17, _, _, _, _, _, _, _, _, _, _, _, _, _, rfl, (fun z e => ⟨(k15 z e).1, (hu19.tm (k15 z e).2 (by decide))⟩), by omega⟩ rfl (Or.inr (by show 1000 + 100 * wid a0 (110, 13) + 11 ∈ _; rw [(wid_w g17)]; decide)) (fun h22 hO22 hv22 d21 hc23 => ?_)
  have hu22 : un [22010, 22011, 22012] h19 h22 := hv22.mono (by decide)
  refine ur_ldA rfl rfl ?_
  refine ur_ldI rfl rfl ?_
  refine ur_putV (W := [22012]) (fs' := [(.inl f2), (.inl f3), (.inl f4), (.inl f5), (.inl f6), (.inl f7), (.inl f8), (.inl f9), (.inl f10), (.inr (.inr o14)), (.inl a1), (.inl a2), (.inl a3)]) rfl hO22 hc23 (Nat.le_of_ble_eq_true rfl) rfl rfl ⟨g17, _, _, _, _, _, _, _, _, _, _, _, _, _, rfl, (fun z e => ⟨(k15 z e).1, (hu22.tm (hu19.tm (k15 z e).2 (by decide)) (by decide))⟩), by omega⟩ rfl (Or.inr (by show 1000 + 100 * wid a0 (110, 13) + 12 ∈ _; rw [(wid_w g17)]; decide)) (fun h25 hO25 hv25 d24 hc26 => ?_)
  have hu25 : un [22010, 22011, 22012] h22 h25 := hv25.mono (by decide)
  exact ur_ret0 rfl (hQ _ _ rfl hO25 (hu19.tr (hu22.tr hu25)) ⟨fA_of (k := 10) hc26, fA_of (k := 11) hc26, fA_of (k := 12) hc26⟩ (fun k hk => fA_10 hc26 hc1 hk) (((OW3.st d18 (Or.inr rfl)).tr (OW3.st d21 (Or.inr rfl))).tr (OW3.st d24 (Or.inr rfl))))

set_option maxRecDepth 20000 in
set_option maxHeartbeats 4000000 in
theorem st_X1_settleSpans {d kc ks : Nat} {h0 : aH} {Q : Option aV → aH → Prop} {ls : List (List (Int × Int) × List (Int × Int))} (hO0 : OK h0) {a1 : Nat} (g1 : 114 ≤ a1) (t1 : tg h0 a1 = (110, 13)) (pre0 : txC h0 (23 + 2 * (fO h0 a1 2).toNat) = cfl 0 ls) (pre1 : ∀ l ∈ ls, lnG l) (hQ : ∀ r h', (r = none) → OK h' → un [22010, 22011, 22012] h0 h' → (fO h0 a1 1 ≠ 3 → SPz h' a1 ls) → (∀ k, k < 10 → fA h' a1 k = fA h0 a1 k) → (OW3 h0 h' a1) → Q r h') : uCall Mt (d + 5) 14 [(.inr (.inr (some 15))), (.inr (.inr (some a1)))] h0 kc ks Q := by
  have l_m1 : ((-1) : Int32).toInt = -1 := by decide
  have l_0 : ((0) : Int32).toInt = 0 := by decide
  have l_1 : ((1) : Int32).toInt = 1 := by decide
  have l_2 : ((2) : Int32).toInt = 2 := by decide
  have l_3 : ((3) : Int32).toInt = 3 := by decide
  refine uc_ink [some (.inr (.inr (some 15))), some (.inr (.inr (some a1))), none, none] mt_14 (Nat.le_of_ble_eq_true rfl) rfl ?_
  obtain ⟨g17, f2, f3, f4, f5, f6, f7, f8, f9, f10, o14, f11, f12, f13, hc1, k15, k16⟩ := hO0.word t1
  have e18 : fV h0 a1 2 = f4 := fV_of hc1 rfl
  have e19 : fV h0 a1 3 = f5 := fV_of hc1 rfl
  have e20 : fV h0 a1 5 = f7 := fV_of hc1 rfl
  have e21 : fV h0 a1 6 = f8 := fV_of hc1 rfl
  have e22 : fV h0 a1 7 = f9 := fV_of hc1 rfl
  have t23 := fO_of (k := 2) hc1 rfl
  have t24 := fO_of (k := 1) hc1 rfl
  have t25 := fO_of (k := 3) hc1 rfl
  have t26 : gI h0 17 f5.toInt = gI h0 17 (fO h0 a1 3) := by rw [t25]
  have t27 : gI h0 18 f5.toInt = gI h0 18 (fO h0 a1 3) := by rw [t25]
  refine ur_ldA rfl rfl ?_
  refine ur_get rfl hc1 rfl ?_
  refine ur_push rfl ?_
  refine ur_if2 rfl (fun c28 => ?_) (fun c28 => ?_)
  · have t29 := ne_to c28
    refine ur_ldA rfl rfl ?_
    refine ur_ldA rfl rfl ?_
    refine ur_get rfl hc1 rfl ?_
    obtain ⟨f31, f32, f33, f34, hc30, k35⟩ := ok_15 hO0
    refine ur_inl rfl (rcv_of hc30) (Nat.le_of_ble_eq_true rfl) (Nat.le_of_ble_eq_true rfl) (sd_X1_isToldReign hO0 _ (fun w36 hr37 => ?_))
    obtain ⟨b38, rfl, t39, t40⟩ := hr37
    show uRun _ (uCall Mt _) _ 17 (_, [(.inl (bi b38))], _, _, _)
    refine ur_neB rfl (fun c41 => ?_) (fun c41 => ?_)
    · have t42 := t39 c41
      clear t39 t40
      refine ur_ldA rfl rfl ?_
      refine ur_ldA rfl rfl ?_
      refine ur_ldA rfl rfl ?_
      refine ur_get rfl hc30 rfl ?_
      refine ur_ldA rfl rfl ?_
      refine ur_get rfl hc1 rfl ?_
      obtain ⟨xs44, hc43, hn45, he46⟩ := hO0.int (hO0.fix 17 (by decide) rfl)
      refine ur_aldV rfl hc43 hn45 (by omega) (fun x47 hx48 => ?_)
      have e49 : gV h0 17 (fO h0 a1 3) = x47 := gV_of hc43 hx48 (by omega)
      have t50 : gI h0 17 (fO h0 a1 3) = x47.toInt := congrArg Int32.toInt e49
      refine ur_inl rfl (rcv_of hc30) (Nat.le_of_ble_eq_true rfl) (Nat.le_of_ble_eq_true rfl) (st_X1_reckonedDay hO0 g17 t1 _ pre0 pre1 (fun w51 h53 hr52 hO53 hv53 => ?_))
      have hu53 : un [22010, 22011, 22012] h0 h53 := hv53.mono (by decide)
      obtain ⟨x54, rfl, f55⟩ := hr52
      show uRun _ (uCall Mt _) _ 47 (_, [(.inl x54)], _, _, _)
      refine ur_svIk [some (.inr (.inr (some 15))), some (.inr (.inr (some a1))), some (.inl x54), none] rfl rfl ?_
      refine ur_ldA rfl rfl ?_
      refine ur_get rfl (hv53.ko (n := 11) hc30 rfl (wid_f (by decide)) (by decide)) rfl ?_
      refine ur_ldA rfl rfl ?_
      refine ur_get rfl (hv53.ko (n := 13) hc1 rfl (wid_w g17) (by decide)) rfl ?_
      obtain ⟨xs57, hc56, hn58, he59⟩ := hO53.int (hO53.fix 18 (by decide) rfl)
      refine ur_aldV rfl hc56 hn58 (by omega) (fun x60 hx61 => ?_)
      have e62 : gV h0 18 (fO h0 a1 3) = x60 := (gV_e (arI_keep (a := 18) (kd := 0) (n := 20) hO0 hu53 (by decide) rfl (by decide) rfl (by decide) (by decide)) _).symm.trans (gV_of hc56 hx61 (by omega))
      have t63 : gI h0 18 (fO h0 a1 3) = x60.toInt := congrArg Int32.toInt e62
      refine ur_svIk [some (.inr (.inr (some 15))), some (.inr (.inr (some a1))), some (.inl x54), some (.inl x60)] rfl rfl ?_
      refine ur_ldI rfl rfl ?_
      refine ur_push rfl ?_
      refine ur_if2 rfl (fun c64 => ?_) (fun c64 => ?_)
      · have t65 := ne_to c64
        refine ur_ldA rfl rfl ?_
        refine ur_push rfl ?_
        refine ur_ldI rfl rfl ?_
        refine ur_ldA rfl rfl ?_
        refine ur_ldA rfl rfl ?_
        refine ur_ldI rfl rfl ?_
        refine ur_inl rfl (rcv_of (hv53.ko (n := 11) hc30 rfl (wid_f (by decide)) (by decide))) (Nat.le_of_ble_eq_true rfl) (Nat.le_of_ble_eq_true rfl) (st_X1_reckonedDay hO53 g17 (hu53.tm t1 (by decide)) _ ((txC_un hO0 hO53 hu53 (by decide) _ (txm_q (by rw [fO_eA (fA_un3 hO0 hu53 g1 t1 (by decide) (by decide))]; omega))).trans (by rw [fO_eA (fA_un3 hO0 hu53 g1 t1 (by decide) (by decide))]; exact pre0)) pre1 (fun w66 h68 hr67 hO68 hv68 => ?_))
        have hu68 : un [22010, 22011, 22012] h53 h68 := hv68.mono (by decide)
        obtain ⟨x69, rfl, f70⟩ := hr67
        show uRun _ (uCall Mt _) _ 82 (_, [(.inl x69), (.inl x54), (.inl 2), (.inr (.inr (some a1)))], _, _, _)
        refine ur_inl rfl (rcv_of (hv68.ko (n := 13) (hv53.ko (n := 13) hc1 rfl (wid_w g17) (by decide)) rfl (wid_w g17) (by decide))) (Nat.le_of_ble_eq_true rfl) (Nat.le_of_ble_eq_true rfl) (st_X10_settle hO68 g17 (hu68.tm (hu53.tm t1 (by decide)) (by decide)) _ _ _ (fun w71 h76 hr72 hO76 hv76 hp73 hp74 hp75 => ?_))
        have hu76 := hv76
        subst hr72
        show uRun _ (uCall Mt _) _ 85 (_, [], _, _, _)
        exact ur_ret0 rfl (hQ _ _ rfl hO76 (hu53.tr (hu68.tr hu76)) (fun _ => SPz.t (fun k hk => (hp74 k hk).trans (fA_un3 hO0 (hu53.tr hu68) g1 t1 (by omega) (un_w hk))) (arI_keep (a := 17) (kd := 0) (n := 20) hO0 (hu53.tr (hu68.tr hu76)) (by decide) rfl (by decide) rfl (by decide) (by decide)) (arI_keep (a := 18) (kd := 0) (n := 20) hO0 (hu53.tr (hu68.tr hu76)) (by decide) rfl (by decide) rfl (by decide) (by decide)) hp73.1 hp73.2.1 hp73.2.2 (by unfold tdR; omega) (by omega) (by decide) (by rw [e49]; exact f55) (by rw [e62]; exact (by have w := f70; rw [fV_e (fA_un3 hO0 hu53 g1 t1 (by decide) (by decide) : fA h53 a1 5 = fA h0 a1 5), fV_e (fA_un3 hO0 hu53 g1 t1 (by decide) (by decide) : fA h53 a1 6 = fA h0 a1 6), fV_e (fA_un3 hO0 hu53 g1 t1 (by decide) (by decide) : fA h53 a1 7 = fA h0 a1 7)] at w; exact w))) (fun k hk => (hp74 k hk).trans (fA_un3 hO0 (hu53.tr hu68) g1 t1 (by omega) (un_w hk))) (((OW3.un hO0 hv53 (by decide)).tr (OW3.un hO53 hv68 (by decide))).tr hp75))
      · have t77 := ne_no c64
        refine ur_ldA rfl rfl ?_
        refine ur_push rfl ?_
        refine ur_ldI rfl rfl ?_
        refine ur_push rfl ?_
        refine ur_inl rfl (rcv_of (hv53.ko (n := 13) hc1 rfl (wid_w g17) (by decide))) (Nat.le_of_ble_eq_true rfl) (Nat.le_of_ble_eq_true rfl) (st_X10_settle hO53 g17 (hu53.tm t1 (by decide)) _ _ _ (fun w78 h83 hr79 hO83 hv83 hp80 hp81 hp82 => ?_))
        have hu83 := hv83
        subst hr79
        show uRun _ (uCall Mt _) _ 70 (_, [], _, _, _)
        refine ur_go rfl ?_
        exact ur_ret0 rfl (hQ _ _ rfl hO83 (hu53.tr hu83) (fun _ => SPz.o (fun k hk => (hp81 k hk).trans (fA_un3 hO0 hu53 g1 t1 (by omega) (un_w hk))) (arI_keep (a := 17) (kd := 0) (n := 20) hO0 (hu53.tr hu83) (by decide) rfl (by decide) rfl (by decide) (by decide)) (arI_keep (a := 18) (kd := 0) (n := 20) hO0 (hu53.tr hu83) (by decide) rfl (by decide) rfl (by decide) (by decide)) hp80.1 hp80.2.1 hp80.2.2 (by unfold tdR; omega) (by omega) (by decide) (by rw [e49]; exact f55)) (fun k hk => (hp81 k hk).trans (fA_un3 hO0 hu53 g1 t1 (by omega) (un_w hk))) ((OW3.un hO0 hv53 (by decide)).tr hp82))
    · have t84 := t40 c41
      clear t39 t40
      refine ur_ldA rfl rfl ?_
      refine ur_push rfl ?_
      refine ur_ldA rfl rfl ?_
      refine ur_ldA rfl rfl ?_
      refine ur_push rfl ?_
      refine ur_inl rfl (rcv_of hc30) (Nat.le_of_ble_eq_true rfl) (Nat.le_of_ble_eq_true rfl) (st_X1_reckonedDay hO0 g17 t1 _ pre0 pre1 (fun w85 h87 hr86 hO87 hv87 => ?_))
      have hu87 : un [22010, 22011, 22012] h0 h87 := hv87.mono (by decide)
      obtain ⟨x88, rfl, f89⟩ := hr86
      show uRun _ (uCall Mt _) _ 28 (_, [(.inl x88), (.inl 1), (.inr (.inr (some a1)))], _, _, _)
      refine ur_push rfl ?_
      refine ur_inl rfl (rcv_of (hv87.ko (n := 13) hc1 rfl (wid_w g17) (by decide))) (Nat.le_of_ble_eq_true rfl) (Nat.le_of_ble_eq_true rfl) (st_X10_settle hO87 g17 (hu87.tm t1 (by decide)) _ _ _ (fun w90 h95 hr91 hO95 hv95 hp92 hp93 hp94 => ?_))
      have hu95 := hv95
      subst hr91
      show uRun _ (uCall Mt _) _ 32 (_, [], _, _, _)
      exact ur_ret0 rfl (hQ _ _ rfl hO95 (hu87.tr hu95) (fun _ => SPz.n (fun k hk => (hp93 k hk).trans (fA_un3 hO0 hu87 g1 t1 (by omega) (un_w hk))) (arI_keep (a := 17) (kd := 0) (n := 20) hO0 (hu87.tr hu95) (by decide) rfl (by decide) rfl (by decide) (by decide)) hp92.1 hp92.2.1 hp92.2.2 (by unfold tdR; omega) (by decide) f89) (fun k hk => (hp93 k hk).trans (fA_un3 hO0 hu87 g1 t1 (by omega) (un_w hk))) ((OW3.un hO0 hv87 (by decide)).tr hp94))
  · have t96 := ne_no c28
    exact ur_ret0 rfl (hQ _ _ rfl hO0 un.rf (fun q => by exfalso; omega) (fun _ _ => rfl) OW3.rf)

set_option maxRecDepth 20000 in
set_option maxHeartbeats 4000000 in
theorem st_X1_settleWordsOf {d kc ks : Nat} {h0 : aH} {Q : Option aV → aH → Prop} {L : Nat → List (List (Int × Int) × List (Int × Int))} (hO0 : OK h0) (a1 : Int32) (pre0 : NA h0) (pre1 : TXF h0 L) (hQ : ∀ r h', (r = none) → OK h' → un [22010, 22011, 22012] h0 h' → (SWq h0 h' L (fun z => fO h0 z 2 = a1.toInt) (fO h0 15 1)) → Q r h') : uCall Mt (d + 6) 13 [(.inr (.inr (some 15))), (.inl a1)] h0 kc ks Q := by
  have l_0 : ((0) : Int32).toInt = 0 := by decide
  have l_1 : ((1) : Int32).toInt = 1 := by decide
  refine uc_ink [some (.inr (.inr (some 15))), some (.inl a1), none, none] mt_13 (Nat.le_of_ble_eq_true rfl) rfl ?_
  obtain ⟨f2, f3, f4, f5, hc1, k6⟩ := ok_15 hO0
  have t7 := fO_of (k := 1) hc1 rfl
  refine ur_push rfl ?_
  refine ur_svIk [some (.inr (.inr (some 15))), some (.inl a1), some (.inl 0), none] rfl rfl ?_
  have L10 : ∀ (m11 : Nat) (x8 : Int32) (u9 : Option aV) (h13 : aH) , OK h13 → un [22010, 22011, 22012] h0 h13 → ((0 ≤ x8.toInt ∧ x8.toInt ≤ 150) ∧ x8.toInt ≤ fO h0 15 1) → (SWq h0 h13 L (fun z => fO h0 z 2 = a1.toInt) (x8.toInt)) → ((151 - x8.toInt).toNat) < m11 → uRun oX1_settleWordsOf (uCall Mt (d + 5)) Q 2 ([some (.inr (.inr (some 15))), some (.inl a1), some (.inl x8), u9], [], h13, kc, ks) := by
    intro m11
    induction m11 with
    | zero => intro x8 u9 h13 hO13 hu13 iv15 px14 mm16; omega
    | succ m11 ih12 =>
      intro x8 u9 h13 hO13 hu13 iv15 px14 mm16
      refine ur_ldI rfl rfl ?_
      refine ur_ldA rfl rfl ?_
      refine ur_get rfl (hu13.ko (n := 11) hc1 rfl (wid_f (by decide)) (by decide)) rfl ?_
      have t17 := fO_of (k := 1) (hu13.ko (n := 11) hc1 rfl (wid_f (by decide)) (by decide)) rfl
      have z18 := any_r x8
      have z19 := any_r f2
      refine ur_if2 rfl (fun c20 => ?_) (fun c20 => ?_)
      · have t21 := le_to c20
        exact ur_ret0 rfl (hQ _ _ rfl hO13 hu13 (SWq.c px14 (by omega)))
      · have t22 := le_no c20
        refine ur_ldA rfl rfl ?_
        refine ur_ldI rfl rfl ?_
        refine ur_inl rfl (rcv_of (hu13.ko (n := 11) hc1 rfl (wid_f (by decide)) (by decide))) (Nat.le_of_ble_eq_true rfl) (Nat.le_of_ble_eq_true rfl) (se_X1_wordAt hO13 _ (pre0.un hO0 hO13 hu13 (by decide) (by decide)) (fun w23 hr24 => ?_))
        obtain ⟨o25, rfl, k26, t27, t28⟩ := hr24
        show uRun _ (uCall Mt _) _ 15 (_, [(.inr (.inr o25))], _, _, _)
        refine ur_svAk [some (.inr (.inr (some 15))), some (.inl a1), some (.inl x8), some (.inr (.inr o25))] rfl rfl ?_
        refine ur_ldA rfl rfl ?_
        cases o25 with
        | none =>
          refine ur_nulN rfl ?_
          have t30 := t27 rfl
          exfalso
          omega
        | some r29 =>
          refine ur_nulS rfl ?_
          have k31 := k26 _ rfl
          have t32 := t28 _ rfl
          obtain ⟨g50, f35, f36, f37, f38, f39, f40, f41, f42, f43, o47, f44, f45, f46, hc34, k48, k49⟩ := hO13.word k31.2
          have t33 := fO_of (k := 2) hc34 rfl
          refine ur_ldA rfl rfl ?_
          refine ur_get rfl hc34 rfl ?_
          refine ur_ldI rfl rfl ?_
          have z51 := any_r f37
          have z52 := any_r a1
          refine ur_if2 rfl (fun c53 => ?_) (fun c53 => ?_)
          · have t54 := ne_to c53
            refine ur_incV (fun z => [some (.inr (.inr (some 15))), some (.inl a1), some (.inl z), some (.inr (.inr (some r29)))]) rfl rfl (fun _ => rfl) (fun x55 e56 => ?_)
            have t57 := ti_add e56 (by omega) (by omega)
            refine ur_go rfl ?_
            have z58 := any_r x55
            exact ih12 x55 _ _ hO13 hu13 (by omega) (SWq.sk px14 (fun z w => by obtain rfl := wz_u ((wz_c (arR_u hO0 hu13 (by decide))) t32.2) w; intro q; have q : fO h0 r29 2 = a1.toInt := q; have e := px14.2.2 r29 g50 (wz_ok hO0 ((wz_c (arR_u hO0 hu13 (by decide))) t32.2)).2 2 (by decide); have e2 := fO_eA e; omega) (by omega)) (by omega)
          · have t59 := ne_no c53
            refine ur_ldA rfl rfl ?_
            refine ur_ldA rfl rfl ?_
            have t60 := fO_of (k := 2) hc34 rfl
            refine ur_inl rfl (rcv_of (hu13.ko (n := 11) hc1 rfl (wid_f (by decide)) (by decide))) (Nat.le_of_ble_eq_true rfl) (Nat.le_of_ble_eq_true rfl) (st_X1_settleSpans hO13 g50 k31.2 ((pre1.un hO0 hO13 hu13 (by decide)) (fO h13 r29 2).toNat (by omega)).1 ((pre1.un hO0 hO13 hu13 (by decide)) (fO h13 r29 2).toNat (by omega)).2 (fun w61 h66 hr62 hO66 hv66 hp63 hp64 hp65 => ?_))
            have hu66 := hv66
            subst hr62
            show uRun _ (uCall Mt _) _ 33 (_, [], _, _, _)
            refine ur_incV (fun z => [some (.inr (.inr (some 15))), some (.inl a1), some (.inl z), some (.inr (.inr (some r29)))]) rfl rfl (fun _ => rfl) (fun x67 e68 => ?_)
            have t69 := ti_add e68 (by omega) (by omega)
            refine ur_go rfl ?_
            have t70 := fO_of (k := 1) (hv66.ko (n := 11) (hu13.ko (n := 11) hc1 rfl (wid_f (by decide)) (by decide)) rfl (wid_f (by decide)) (by decide)) rfl
            have z71 := any_r x67
            exact ih12 x67 _ _ hO66 (hu13.tr hu66) (by omega) (SWq.s px14 hO0 ((wz_c (arR_u hO0 hu13 (by decide))) t32.2) (by have e := px14.2.2 r29 g50 (wz_ok hO0 ((wz_c (arR_u hO0 hu13 (by decide))) t32.2)).2 2 (by decide); have e2 := fO_eA e; show fO h0 r29 2 = _; omega) hp63 hp64 hp65 (arI_keep (a := 17) (kd := 0) (n := 20) hO13 hv66 (by decide) rfl (by decide) rfl (by decide) (by decide)) (arI_keep (a := 18) (kd := 0) (n := 20) hO13 hv66 (by decide) rfl (by decide) rfl (by decide) (by decide)) (fun z t => (hu13).tm t (by decide)) (by omega)) (by omega)
  exact L10 _ 0 (none) _ hO0 un.rf (by omega) (SWq.z (by omega)) (Nat.lt_succ_self _)

set_option maxRecDepth 20000 in
set_option maxHeartbeats 4000000 in
theorem st_X1_tellReign {d kc ks : Nat} {h0 : aH} {Q : Option aV → aH → Prop} {L : Nat → List (List (Int × Int) × List (Int × Int))} (hO0 : OK h0) (a1 : Int32) (a2 : Int32) (a3 : Int32) (pre0 : NA h0) (pre1 : TXF h0 L) (hQ : ∀ r h', (r = none) → OK h' → un [17, 18, 22010, 22011, 22012] h0 h' → ((0 ≤ a1.toInt ∧ a1.toInt ≤ 19) → ∃ hm, OK hm ∧ OW3 h0 hm 0 ∧ arR hm 16 = arR h0 16 ∧ arI hm 17 = (arI h0 17).set a1.toInt.toNat a2 ∧ arI hm 18 = (arI h0 18).set a1.toInt.toNat a3 ∧ SWq hm h' L (fun z => fO hm z 3 = a1.toInt) (fO h0 15 1) ∧ arI h' 17 = arI hm 17 ∧ arI h' 18 = arI hm 18) → (¬ (0 ≤ a1.toInt ∧ a1.toInt ≤ 19) → h' = h0) → Q r h') : uCall Mt (d + 6) 12 [(.inr (.inr (some 15))), (.inl a1), (.inl a2), (.inl a3)] h0 kc ks Q := by
  have l_0 : ((0) : Int32).toInt = 0 := by decide
  have l_1 : ((1) : Int32).toInt = 1 := by decide
  have l_19 : ((19) : Int32).toInt = 19 := by decide
  refine uc_ink [some (.inr (.inr (some 15))), some (.inl a1), some (.inl a2), some (.inl a3), none, none] mt_12 (Nat.le_of_ble_eq_true rfl) rfl ?_
  obtain ⟨f2, f3, f4, f5, hc1, k6⟩ := ok_15 hO0
  have t7 := fO_of (k := 1) hc1 rfl
  refine ur_ldI rfl rfl ?_
  refine ur_push rfl ?_
  refine ur_push rfl ?_
  refine ur_callv rfl rfl (Nat.le_of_ble_eq_true rfl) (Nat.le_of_ble_eq_true rfl) rfl (sp_within _ _ _ _ _) ?_
  refine ur_neB rfl (fun c10 => ?_) (fun c10 => ?_)
  · have t11 := wi_toL c10 l_0 l_19
    refine ur_ldA rfl rfl ?_
    refine ur_get rfl hc1 rfl ?_
    refine ur_ldI rfl rfl ?_
    refine ur_ldI rfl rfl ?_
    obtain ⟨xs13, hc12, hn14, he15⟩ := hO0.int (hO0.fix 17 (by decide) rfl)
    refine ur_astV (W := [17]) (m := 20) rfl hO0 hc12 (by decide) hn14 (by omega) (any_r _) (Or.inr (Or.inr (wid_fix (by decide) (by decide)))) (fun h18 hO18 hv18 d16 hc17 => ?_)
    have hu18 : un [17, 18, 22010, 22011, 22012] h0 h18 := hv18.mono (by decide)
    have w19 : wI h0 h18 17 ((arI h0 17).set (a1 : Int32).toInt.toNat a2) := ⟨by rw [arI_of hc17, arI_of hc12], d16⟩
    refine ur_ldA rfl rfl ?_
    refine ur_get rfl ((d16 _ (by decide)).trans hc1) rfl ?_
    have t20 := fO_of (k := 1) ((d16 _ (by decide)).trans hc1) rfl
    refine ur_ldI rfl rfl ?_
    refine ur_ldI rfl rfl ?_
    obtain ⟨xs22, hc21, hn23, he24⟩ := hO18.int (hO18.fix 18 (by decide) rfl)
    refine ur_astV (W := [18]) (m := 20) rfl hO18 hc21 (by decide) hn23 (by omega) (any_r _) (Or.inr (Or.inr (wid_fix (by decide) (by decide)))) (fun h27 hO27 hv27 d25 hc26 => ?_)
    have hu27 : un [17, 18, 22010, 22011, 22012] h18 h27 := hv27.mono (by decide)
    have w28 : wI h18 h27 18 ((arI h18 18).set (a1 : Int32).toInt.toNat a3) := ⟨by rw [arI_of hc26, arI_of hc21], d25⟩
    refine ur_push rfl ?_
    refine ur_svIk [some (.inr (.inr (some 15))), some (.inl a1), some (.inl a2), some (.inl a3), some (.inl 0), none] rfl rfl ?_
    have t34 := fO_of (k := 1) ((d25 _ (by decide)).trans ((d16 _ (by decide)).trans hc1)) rfl
    have L31 : ∀ (m32 : Nat) (x29 : Int32) (u30 : Option aV) (h35 : aH) , OK h35 → un [17, 18, 22010, 22011, 22012] h27 h35 → ((0 ≤ x29.toInt ∧ x29.toInt ≤ 150) ∧ x29.toInt ≤ fO h0 15 1) → (arI h35 17 = arI h27 17) → (arI h35 18 = arI h27 18) → (SWq h27 h35 L (fun z => fO h27 z 3 = a1.toInt) (x29.toInt)) → ((151 - x29.toInt).toNat) < m32 → uRun oX1_tellReign (uCall Mt (d + 5)) Q 28 ([some (.inr (.inr (some 15))), some (.inl a1), some (.inl a2), some (.inl a3), some (.inl x29), u30], [], h35, kc, ks) := by
      intro m32
      induction m32 with
      | zero => intro x29 u30 h35 hO35 hu35 iv39 px36 px37 px38 mm40; omega
      | succ m32 ih33 =>
        intro x29 u30 h35 hO35 hu35 iv39 px36 px37 px38 mm40
        refine ur_ldI rfl rfl ?_
        refine ur_ldA rfl rfl ?_
        refine ur_get rfl (hu35.ko (n := 11) ((d25 _ (by decide)).trans ((d16 _ (by decide)).trans hc1)) rfl (wid_f (by decide)) (by decide)) rfl ?_
        have t41 := fO_of (k := 1) (hu35.ko (n := 11) ((d25 _ (by decide)).trans ((d16 _ (by decide)).trans hc1)) rfl (wid_f (by decide)) (by decide)) rfl
        have z42 := any_r x29
        have z43 := any_r f2
        refine ur_if2 rfl (fun c44 => ?_) (fun c44 => ?_)
        · have t45 := le_to c44
          have t46 := fO_keep (a := 15) (ci := 1) (n := 11) (k := 1) hO0 hO18 hv18 (by decide) rfl (by decide) rfl (by decide)
          have t47 := fO_keep (a := 15) (ci := 1) (n := 11) (k := 1) hO18 hO27 hv27 (by decide) rfl (by decide) rfl (by decide)
          exact ur_ret0 rfl (hQ _ _ rfl hO35 (hu18.tr (hu27.tr hu35)) (fun _ => ⟨h27, hO27, ((OW3.st d16 (Or.inl (by decide))).tr (OW3.st d25 (Or.inl (by decide)))), ((arR_c (d25 16 (by decide))).trans (arR_c (d16 16 (by decide)))), ((w28.oI (by decide)).trans w19.1), (w28.1.trans (by rw [w19.oI (by decide)])), SWq.c px38 (by omega), px36, px37⟩) (fun q => absurd (by omega) q))
        · have t48 := le_no c44
          refine ur_ldA rfl rfl ?_
          refine ur_ldI rfl rfl ?_
          have t49 := fO_keep (a := 15) (ci := 1) (n := 11) (k := 1) hO0 hO18 hv18 (by decide) rfl (by decide) rfl (by decide)
          have t50 := fO_keep (a := 15) (ci := 1) (n := 11) (k := 1) hO18 hO27 hv27 (by decide) rfl (by decide) rfl (by decide)
          refine ur_inl rfl (rcv_of (hu35.ko (n := 11) ((d25 _ (by decide)).trans ((d16 _ (by decide)).trans hc1)) rfl (wid_f (by decide)) (by decide))) (Nat.le_of_ble_eq_true rfl) (Nat.le_of_ble_eq_true rfl) (se_X1_wordAt hO35 _ (pre0.un hO0 hO35 (hu18.tr (hu27.tr hu35)) (by decide) (by decide)) (fun w51 hr52 => ?_))
          obtain ⟨o53, rfl, k54, t55, t56⟩ := hr52
          show uRun _ (uCall Mt _) _ 43 (_, [(.inr (.inr o53))], _, _, _)
          refine ur_svAk [some (.inr (.inr (some 15))), some (.inl a1), some (.inl a2), some (.inl a3), some (.inl x29), some (.inr (.inr o53))] rfl rfl ?_
          refine ur_ldA rfl rfl ?_
          cases o53 with
          | none =>
            refine ur_nulN rfl ?_
            have t58 := t55 rfl
            exfalso
            omega
          | some r57 =>
            refine ur_nulS rfl ?_
            have k59 := k54 _ rfl
            have t60 := t56 _ rfl
            obtain ⟨g78, f63, f64, f65, f66, f67, f68, f69, f70, f71, o75, f72, f73, f74, hc62, k76, k77⟩ := hO35.word k59.2
            have t61 := fO_of (k := 2) hc62 rfl
            have t79 := fO_of (k := 3) hc62 rfl
            refine ur_ldA rfl rfl ?_
            refine ur_get rfl hc62 rfl ?_
            refine ur_ldI rfl rfl ?_
            have z80 := any_r f66
            have z81 := any_r a1
            refine ur_if2 rfl (fun c82 => ?_) (fun c82 => ?_)
            · have t83 := ne_to c82
              refine ur_incV (fun z => [some (.inr (.inr (some 15))), some (.inl a1), some (.inl a2), some (.inl a3), some (.inl z), some (.inr (.inr (some r57)))]) rfl rfl (fun _ => rfl) (fun x84 e85 => ?_)
              have t86 := ti_add e85 (by omega) (by omega)
              refine ur_go rfl ?_
              have z87 := any_r x84
              exact ih33 x84 _ _ hO35 hu35 (by omega) px36 px37 (SWq.sk px38 (fun z w => by obtain rfl := wz_u ((wz_c (arR_u hO27 hu35 (by decide))) t60.2) w; intro q; have q : fO h27 r57 3 = a1.toInt := q; have e := px38.2.2 r57 g78 (wz_ok hO27 ((wz_c (arR_u hO27 hu35 (by decide))) t60.2)).2 3 (by decide); have e2 := fO_eA e; omega) (by omega)) (by omega)
            · have t88 := ne_no c82
              refine ur_ldA rfl rfl ?_
              refine ur_ldA rfl rfl ?_
              have t89 := fO_of (k := 2) hc62 rfl
              refine ur_inl rfl (rcv_of (hu35.ko (n := 11) ((d25 _ (by decide)).trans ((d16 _ (by decide)).trans hc1)) rfl (wid_f (by decide)) (by decide))) (Nat.le_of_ble_eq_true rfl) (Nat.le_of_ble_eq_true rfl) (st_X1_settleSpans hO35 g78 k59.2 ((((pre1.un hO0 hO18 hv18 (by decide)).un hO18 hO27 hv27 (by decide)).un hO27 hO35 hu35 (by decide)) (fO h35 r57 2).toNat (by omega)).1 ((((pre1.un hO0 hO18 hv18 (by decide)).un hO18 hO27 hv27 (by decide)).un hO27 hO35 hu35 (by decide)) (fO h35 r57 2).toNat (by omega)).2 (fun w90 h95 hr91 hO95 hv95 hp92 hp93 hp94 => ?_))
              have hu95 : un [17, 18, 22010, 22011, 22012] h35 h95 := hv95.mono (by decide)
              subst hr91
              show uRun _ (uCall Mt _) _ 65 (_, [], _, _, _)
              refine ur_incV (fun z => [some (.inr (.inr (some 15))), some (.inl a1), some (.inl a2), some (.inl a3), some (.inl z), some (.inr (.inr (some r57)))]) rfl rfl (fun _ => rfl) (fun x96 e97 => ?_)
              have t98 := ti_add e97 (by omega) (by omega)
              refine ur_go rfl ?_
              have t99 := fO_of (k := 1) (hv95.ko (n := 11) (hu35.ko (n := 11) ((d25 _ (by decide)).trans ((d16 _ (by decide)).trans hc1)) rfl (wid_f (by decide)) (by decide)) rfl (wid_f (by decide)) (by decide)) rfl
              have z100 := any_r x96
              exact ih33 x96 _ _ hO95 (hu35.tr hu95) (by omega) ((arI_keep (a := 17) (kd := 0) (n := 20) hO35 hv95 (by decide) rfl (by decide) rfl (by decide) (by decide)).trans px36) ((arI_keep (a := 18) (kd := 0) (n := 20) hO35 hv95 (by decide) rfl (by decide) rfl (by decide) (by decide)).trans px37) (SWq.s px38 hO27 ((wz_c (arR_u hO27 hu35 (by decide))) t60.2) (by have e := px38.2.2 r57 g78 (wz_ok hO27 ((wz_c (arR_u hO27 hu35 (by decide))) t60.2)).2 3 (by decide); have e2 := fO_eA e; show fO h27 r57 3 = _; omega) hp92 hp93 hp94 (arI_keep (a := 17) (kd := 0) (n := 20) hO35 hv95 (by decide) rfl (by decide) rfl (by decide) (by decide)) (arI_keep (a := 18) (kd := 0) (n := 20) hO35 hv95 (by decide) rfl (by decide) rfl (by decide) (by decide)) (fun z t => (hu35).tm t (by decide)) (by omega)) (by omega)
    exact L31 _ 0 (none) _ hO27 un.rf (by omega) rfl rfl (SWq.z (by omega)) (Nat.lt_succ_self _)
  · have t101 := wi_noL c10 l_0 l_19
    exact ur_ret0 rfl (hQ _ _ rfl hO0 un.rf (fun q => by exfalso; omega) (fun _ => rfl))

set_option maxRecDepth 20000 in
set_option maxHeartbeats 4000000 in
theorem st_X10_copyFrom {d kc ks : Nat} {h0 : aH} {Q : Option aV → aH → Prop} (hO0 : OK h0) {a0 : Nat} (g0 : 114 ≤ a0) (t0 : tg h0 a0 = (110, 13)) {a1 : Nat} (g1 : 114 ≤ a1) (t1 : tg h0 a1 = (110, 13)) (hQ : ∀ r h', (r = none) → OK h' → un [22009] h0 h' → (OWK h0 h' a0) → (fA h' a0 9 = some (.inr (.inr (some a1)))) → (OW3 h0 h' a0) → Q r h') : uCall Mt (d + 1) 116 [(.inr (.inr (some a0))), (.inr (.inr (some a1)))] h0 kc ks Q := by
  refine uc_ink [some (.inr (.inr (some a0))), some (.inr (.inr (some a1)))] mt_116 (Nat.le_of_ble_eq_true rfl) rfl ?_
  refine ur_ldA rfl rfl ?_
  refine ur_ldA rfl rfl ?_
  obtain ⟨g17, f2, f3, f4, f5, f6, f7, f8, f9, f10, o14, f11, f12, f13, hc1, k15, k16⟩ := hO0.word t0
  refine ur_putV (W := [22009]) (fs' := [(.inl f2), (.inl f3), (.inl f4), (.inl f5), (.inl f6), (.inl f7), (.inl f8), (.inl f9), (.inl f10), (.inr (.inr (some a1))), (.inl f11), (.inl f12), (.inl f13)]) rfl hO0 hc1 (Nat.le_of_ble_eq_true rfl) rfl rfl ⟨g17, _, _, _, _, _, _, _, _, _, _, _, _, _, rfl, (fun _ e => by cases e; exact ⟨g1, t1⟩), by omega⟩ rfl (Or.inr (by show 1000 + 100 * wid a0 (110, 13) + 9 ∈ _; rw [(wid_w g17)]; decide)) (fun h19 hO19 hu19 d18 hc20 => ?_)
  exact ur_ret0 rfl (hQ _ _ rfl hO19 hu19 (OWK.st d18 (Or.inr rfl)) (fA_of (k := 9) hc20) (OW3.st d18 (Or.inr rfl)))

set_option maxRecDepth 20000 in
set_option maxHeartbeats 4000000 in
theorem st_X10_dateIt {d kc ks : Nat} {h0 : aH} {Q : Option aV → aH → Prop} (hO0 : OK h0) {a0 : Nat} (g0 : 114 ≤ a0) (t0 : tg h0 a0 = (110, 13)) (a1 : Int32) (a2 : Int32) (a3 : Int32) (hQ : ∀ r h', (r = none) → OK h' → un [22005, 22006, 22007] h0 h' → (OWK h0 h' a0) → (fA h' a0 5 = some (.inl a1) ∧ fA h' a0 6 = some (.inl a2) ∧ fA h' a0 7 = some (.inl a3)) → (OW3 h0 h' a0) → Q r h') : uCall Mt (d + 1) 115 [(.inr (.inr (some a0))), (.inl a1), (.inl a2), (.inl a3)] h0 kc ks Q := by
  refine uc_ink [some (.inr (.inr (some a0))), some (.inl a1), some (.inl a2), some (.inl a3)] mt_115 (Nat.le_of_ble_eq_true rfl) rfl ?_
  refine ur_ldA rfl rfl ?_
  refine ur_ldI rfl rfl ?_
  obtain ⟨g17, f2, f3, f4, f5, f6, f7, f8, f9, f10, o14, f11, f12, f13, hc1, k15, k16⟩ := hO0.word t0
  refine ur_putV (W := [22005, 22006, 22007]) (fs' := [(.inl f2), (.inl f3), (.inl f4), (.inl f5), (.inl f6), (.inl a1), (.inl f8), (.inl f9), (.inl f10), (.inr (.inr o14)), (.inl f11), (.inl f12), (.inl f13)]) rfl hO0 hc1 (Nat.le_of_ble_eq_true rfl) rfl rfl ⟨g17, _, _, _, _, _, _, _, _, _, _, _, _, _, rfl, k15, by omega⟩ rfl (Or.inr (by show 1000 + 100 * wid a0 (110, 13) + 5 ∈ _; rw [(wid_w g17)]; decide)) (fun h19 hO19 hu19 d18 hc20 => ?_)
  refine ur_ldA rfl rfl ?_
  refine ur_ldI rfl rfl ?_
  refine ur_putV (W := [22005, 22006, 22007]) (fs' := [(.inl f2), (.inl f3), (.inl f4), (.inl f5), (.inl f6), (.inl a1), (.inl a2), (.inl f9), (.inl f10), (.inr (.inr o14)), (.inl f11), (.inl f12), (.inl f13)]) rfl hO19 hc20 (Nat.le_of_ble_eq_true rfl) rfl rfl ⟨g17, _, _, _, _, _, _, _, _, _, _, _, _, _, rfl, (fun z e => ⟨(k15 z e).1, (hu19.tm (k15 z e).2 (by decide))⟩), by omega⟩ rfl (Or.inr (by show 1000 + 100 * wid a0 (110, 13) + 6 ∈ _; rw [(wid_w g17)]; decide)) (fun h22 hO22 hu22 d21 hc23 => ?_)
  refine ur_ldA rfl rfl ?_
  refine ur_ldI rfl rfl ?_
  refine ur_putV (W := [22005, 22006, 22007]) (fs' := [(.inl f2), (.inl f3), (.inl f4), (.inl f5), (.inl f6), (.inl a1), (.inl a2), (.inl a3), (.inl f10), (.inr (.inr o14)), (.inl f11), (.inl f12), (.inl f13)]) rfl hO22 hc23 (Nat.le_of_ble_eq_true rfl) rfl rfl ⟨g17, _, _, _, _, _, _, _, _, _, _, _, _, _, rfl, (fun z e => ⟨(k15 z e).1, (hu22.tm (hu19.tm (k15 z e).2 (by decide)) (by decide))⟩), by omega⟩ rfl (Or.inr (by show 1000 + 100 * wid a0 (110, 13) + 7 ∈ _; rw [(wid_w g17)]; decide)) (fun h25 hO25 hu25 d24 hc26 => ?_)
  exact ur_ret0 rfl (hQ _ _ rfl hO25 (hu19.tr (hu22.tr hu25)) (((OWK.st d18 (Or.inr rfl)).tr (OWK.st d21 (Or.inr rfl))).tr (OWK.st d24 (Or.inr rfl))) ⟨fA_of (k := 5) hc26, fA_of (k := 6) hc26, fA_of (k := 7) hc26⟩ (((OW3.st d18 (Or.inr rfl)).tr (OW3.st d21 (Or.inr rfl))).tr (OW3.st d24 (Or.inr rfl))))

set_option maxRecDepth 20000 in
set_option maxHeartbeats 4000000 in
theorem st_X1_addWord {d kc ks : Nat} {h0 : aH} {Q : Option aV → aH → Prop} {L : Nat → List (List (Int × Int) × List (Int × Int))} (hO0 : OK h0) {a1 : Nat} (g1 : 114 ≤ a1) (t1 : tg h0 a1 = (110, 13)) (a2 : Int32) (pre0 : NA h0) (pre1 : fO h0 15 1 ≤ 149) (pre2 : fO h0 a1 1 = 3 → 0 ≤ a2.toInt ∧ a2.toInt < fO h0 15 1) (pre3 : TXF h0 L) (hQ : ∀ r h', (∃ x : Int32, r = some (.inl x) ∧ (x.toInt = fO h0 15 1 ∧ fO h' 15 1 = fO h0 15 1 + 1)) → OK h' → un [16, 2501, 22008, 22009, 22010, 22011, 22012] h0 h' → (nW h' ≤ nW h0 + 0) → (NA h') → (OWK h0 h' a1) → (arR h' 16 = (arR h0 16).set (fO h0 15 1).toNat (some a1)) → (ifG (fO h0 a1 1 = 0 ∨ fO h0 a1 1 = 4 ∨ fO h0 a1 1 = 5) (fA h' a1 8 = fA h0 a1 8) (fA h' a1 8 = some (.inl a2))) → (ifG (fO h0 a1 1 = 3) (∃ zs r, wz h0 a2.toInt zs ∧ rtz h0 zs r ∧ fA h' a1 9 = some (.inr (.inr (some r)))) (fA h' a1 9 = fA h0 a1 9)) → (fO h0 a1 1 ≠ 3 → SPz h' a1 (L (fO h0 a1 2).toNat)) → (OW3 h0 h' a1) → Q r h') : uCall Mt (d + 6) 11 [(.inr (.inr (some 15))), (.inr (.inr (some a1))), (.inl a2)] h0 kc ks Q := by
  have l_0 : ((0) : Int32).toInt = 0 := by decide
  have l_1 : ((1) : Int32).toInt = 1 := by decide
  have l_3 : ((3) : Int32).toInt = 3 := by decide
  have l_4 : ((4) : Int32).toInt = 4 := by decide
  have l_5 : ((5) : Int32).toInt = 5 := by decide
  have l_150 : ((150) : Int32).toInt = 150 := by decide
  refine uc_ink [some (.inr (.inr (some 15))), some (.inr (.inr (some a1))), some (.inl a2), none] mt_11 (Nat.le_of_ble_eq_true rfl) rfl ?_
  obtain ⟨f2, f3, f4, f5, hc1, k6⟩ := ok_15 hO0
  have t7 := fO_of (k := 1) hc1 rfl
  obtain ⟨g24, f9, f10, f11, f12, f13, f14, f15, f16, f17, o21, f18, f19, f20, hc8, k22, k23⟩ := hO0.word t1
  have t25 := fO_of (k := 1) hc8 rfl
  have t26 := fO_of (k := 2) hc8 rfl
  refine ur_ldA rfl rfl ?_
  refine ur_get rfl hc1 rfl ?_
  refine ur_push rfl ?_
  refine ur_if2 rfl (fun c27 => ?_) (fun c27 => ?_)
  · have t28 := lt_to c27
    refine ur_ldA rfl rfl ?_
    refine ur_get rfl hc8 rfl ?_
    refine ur_if1 rfl (fun c29 => ?_) (fun c29 => ?_)
    · have t30 := eq_to c29
      refine ur_ldA rfl rfl ?_
      refine ur_get rfl hc8 rfl ?_
      refine ur_push rfl ?_
      refine ur_if2 rfl (fun c31 => ?_) (fun c31 => ?_)
      · have t32 := ne_to c31
        refine ur_ldA rfl rfl ?_
        refine ur_get rfl hc1 rfl ?_
        refine ur_ldA rfl rfl ?_
        refine ur_get rfl hc1 rfl ?_
        refine ur_ldA rfl rfl ?_
        obtain ⟨xs34, hc33, hn35, he36⟩ := hO0.wor (hO0.fix 16 (by decide) rfl)
        refine ur_astAV (W := [16]) (m := 150) rfl hO0 hc33 hc8 (Or.inr ⟨rfl, g24, t1⟩) hn35 (by omega) (Or.inr (Or.inr (wid_fix (by decide) (by decide)))) (fun h39 hO39 hv39 d37 hc38 => ?_)
        have hu39 : un [16, 2501, 22008, 22009, 22010, 22011, 22012] h0 h39 := hv39.mono (by decide)
        refine ur_ldA rfl rfl ?_
        refine ur_dup rfl rfl ?_
        refine ur_get rfl ((d37 _ (by decide)).trans hc1) rfl ?_
        have t40 := fO_of (k := 1) ((d37 _ (by decide)).trans hc1) rfl
        refine ur_push rfl ?_
        refine ur_binV rfl (fun x41 e42 => ?_)
        have z43 := any_r f2
        have t44 := ti_add e42 (by omega) (by omega)
        refine ur_putV (W := [2501]) (fs' := [(.inr (.inr (some 16))), (.inl x41), (.inl f3), (.inl f4), (.inl f5), (.inr (.inr (some 17))), (.inr (.inr (some 18))), (.inr (.inr (some 19))), (.inr (.inr (some 20))), (.inr (.inr (some 21))), (.inr (.inr (some 22)))]) rfl hO39 ((d37 _ (by decide)).trans hc1) (Nat.le_of_ble_eq_true rfl) rfl rfl ⟨rfl, _, _, _, _, rfl, by omega⟩ rfl (Or.inr (by show 1000 + 100 * wid 15 (101, 11) + 1 ∈ _; rw [(wid_f (by decide))]; decide)) (fun h46 hO46 hv46 d45 hc47 => ?_)
        have hu46 : un [16, 2501, 22008, 22009, 22010, 22011, 22012] h39 h46 := hv46.mono (by decide)
        refine ur_ldA rfl rfl ?_
        refine ur_ldA rfl rfl ?_
        have t48 := fO_keep (a := 15) (ci := 1) (n := 11) (k := 1) hO0 hO39 hv39 (by decide) rfl (by decide) rfl (by decide)
        have hc50 := ((d45 _ (ne_tg (hu46.tm (hu39.tm t1 (by decide)) (by decide)) (hO46.fix 15 (by decide) rfl) (by decide))).trans ((d37 _ (ne_tg (hu46.tm (hu39.tm t1 (by decide)) (by decide)) (hO46.fix 16 (by decide) rfl) (by decide))).trans hc8))
        have t49 := fO_of (k := 2) hc50 rfl
        refine ur_inl rfl (rcv_of hc47) (Nat.le_of_ble_eq_true rfl) (Nat.le_of_ble_eq_true rfl) (st_X1_settleSpans hO46 g24 (hu46.tm (hu39.tm t1 (by decide)) (by decide)) (((pre3.un hO0 hO39 hv39 (by decide)).un hO39 hO46 hv46 (by decide)) (fO h46 a1 2).toNat (by omega)).1 (((pre3.un hO0 hO39 hv39 (by decide)).un hO39 hO46 hv46 (by decide)) (fO h46 a1 2).toNat (by omega)).2 (fun w51 h56 hr52 hO56 hv56 hp53 hp54 hp55 => ?_))
        have hu56 : un [16, 2501, 22008, 22009, 22010, 22011, 22012] h46 h56 := hv56.mono (by decide)
        subst hr52
        show uRun _ (uCall Mt _) _ 94 (_, [], _, _, _)
        have t57 := fO_of (k := 1) (hv56.ko (n := 11) hc47 rfl (wid_f (by decide)) (by decide)) rfl
        obtain ⟨g74, f59, f60, f61, f62, f63, f64, f65, f66, f67, o71, f68, f69, f70, hc58, k72, k73⟩ := hO56.word (hu56.tm (hu46.tm (hu39.tm t1 (by decide)) (by decide)) (by decide))
        have t75 := fO_of (k := 1) hc58 rfl
        refine ur_ldA rfl rfl ?_
        refine ur_get rfl (hv56.ko (n := 11) hc47 rfl (wid_f (by decide)) (by decide)) rfl ?_
        refine ur_push rfl ?_
        refine ur_binV rfl (fun x76 e77 => ?_)
        have z78 := any_r x41
        have t79 := ti_sub e77 (by omega) (by omega)
        have t80 := fO_keep (a := 15) (ci := 1) (n := 11) (k := 1) hO46 hO56 hv56 (by decide) rfl (by decide) rfl (by decide)
        have t81 := hv39.nW (by decide)
        have t82 := hv46.nW (by decide)
        have t83 := hv56.nW (by decide)
        have n84 := NA_push pre0 hc33 hc38 (by omega) (by omega) (d45 16 (by decide)) (show fO h46 15 1 = fO h0 15 1 + 1 by omega) hn35
        exact ur_ret rfl rfl (hQ _ _ ⟨_, rfl, by omega⟩ hO56 (hu39.tr (hu46.tr hu56)) (by omega) (n84.un hO46 hO56 hv56 (by decide) (by decide)) (((OWK.st d37 (Or.inl (by decide))).tr (OWK.st d45 (Or.inl (by decide)))).tr (OWK.un hO46 hv56 (by decide))) (((arR_u hO46 hv56 (by decide)).trans (arR_c (d45 16 (by decide)))).trans (show arR h39 16 = (arR h0 16).set (fO h0 15 1).toNat (some a1) by rw [arR_of hc38, ← (show arR h0 16 = _ from arR_of hc33), show arR h0 16 = arR h0 16 from rfl, show f2.toInt.toNat = (fO h0 15 1).toNat from congrArg Int.toNat (show f2.toInt = fO h0 15 1 by omega)])) ⟨fun _ => ((fA_un hO46 hv56 g74 (hu46.tm (hu39.tm t1 (by decide)) (by decide)) (by decide) (by decide)).trans ((fA_un hO39 hv46 g74 (hu39.tm t1 (by decide)) (by decide) (by decide)).trans (fA_un hO0 hv39 g74 t1 (by decide) (by decide)))), fun q => absurd (by omega) q⟩ ⟨fun q => by exfalso; omega, fun _ => ((fA_un hO46 hv56 g74 (hu46.tm (hu39.tm t1 (by decide)) (by decide)) (by decide) (by decide)).trans ((fA_un hO39 hv46 g74 (hu39.tm t1 (by decide)) (by decide) (by decide)).trans (fA_un hO0 hv39 g74 t1 (by decide) (by decide))))⟩ (fun q => by have w := hp53 (by rw [fO_eA ((fA_un hO39 hv46 g74 (hu39.tm t1 (by decide)) (by decide) (by decide)).trans (fA_un hO0 hv39 g74 t1 (by decide) (by decide)))]; exact q); rw [fO_eA ((fA_un hO39 hv46 g74 (hu39.tm t1 (by decide)) (by decide) (by decide)).trans (fA_un hO0 hv39 g74 t1 (by decide) (by decide)))] at w; exact w) (((OW3.st d37 (Or.inl (by decide))).tr (OW3.st d45 (Or.inl (by decide)))).tr hp55))
      · have t85 := ne_no c31
        exfalso
        omega
    · have t86 := eq_no c29
      refine ur_ldA rfl rfl ?_
      refine ur_get rfl hc8 rfl ?_
      refine ur_push rfl ?_
      refine ur_if2 rfl (fun c87 => ?_) (fun c87 => ?_)
      · have t88 := eq_to c87
        refine ur_ldA rfl rfl ?_
        refine ur_get rfl hc8 rfl ?_
        refine ur_push rfl ?_
        refine ur_if2 rfl (fun c89 => ?_) (fun c89 => ?_)
        · have t90 := ne_to c89
          refine ur_ldA rfl rfl ?_
          refine ur_get rfl hc1 rfl ?_
          refine ur_ldA rfl rfl ?_
          refine ur_get rfl hc1 rfl ?_
          refine ur_ldA rfl rfl ?_
          obtain ⟨xs92, hc91, hn93, he94⟩ := hO0.wor (hO0.fix 16 (by decide) rfl)
          refine ur_astAV (W := [16]) (m := 150) rfl hO0 hc91 hc8 (Or.inr ⟨rfl, g24, t1⟩) hn93 (by omega) (Or.inr (Or.inr (wid_fix (by decide) (by decide)))) (fun h97 hO97 hv97 d95 hc96 => ?_)
          have hu97 : un [16, 2501, 22008, 22009, 22010, 22011, 22012] h0 h97 := hv97.mono (by decide)
          refine ur_ldA rfl rfl ?_
          refine ur_dup rfl rfl ?_
          refine ur_get rfl ((d95 _ (by decide)).trans hc1) rfl ?_
          have t98 := fO_of (k := 1) ((d95 _ (by decide)).trans hc1) rfl
          refine ur_push rfl ?_
          refine ur_binV rfl (fun x99 e100 => ?_)
          have z101 := any_r f2
          have t102 := ti_add e100 (by omega) (by omega)
          refine ur_putV (W := [2501]) (fs' := [(.inr (.inr (some 16))), (.inl x99), (.inl f3), (.inl f4), (.inl f5), (.inr (.inr (some 17))), (.inr (.inr (some 18))), (.inr (.inr (some 19))), (.inr (.inr (some 20))), (.inr (.inr (some 21))), (.inr (.inr (some 22)))]) rfl hO97 ((d95 _ (by decide)).trans hc1) (Nat.le_of_ble_eq_true rfl) rfl rfl ⟨rfl, _, _, _, _, rfl, by omega⟩ rfl (Or.inr (by show 1000 + 100 * wid 15 (101, 11) + 1 ∈ _; rw [(wid_f (by decide))]; decide)) (fun h104 hO104 hv104 d103 hc105 => ?_)
          have hu104 : un [16, 2501, 22008, 22009, 22010, 22011, 22012] h97 h104 := hv104.mono (by decide)
          refine ur_ldA rfl rfl ?_
          refine ur_ldA rfl rfl ?_
          have t106 := fO_keep (a := 15) (ci := 1) (n := 11) (k := 1) hO0 hO97 hv97 (by decide) rfl (by decide) rfl (by decide)
          have hc108 := ((d103 _ (ne_tg (hu104.tm (hu97.tm t1 (by decide)) (by decide)) (hO104.fix 15 (by decide) rfl) (by decide))).trans ((d95 _ (ne_tg (hu104.tm (hu97.tm t1 (by decide)) (by decide)) (hO104.fix 16 (by decide) rfl) (by decide))).trans hc8))
          have t107 := fO_of (k := 2) hc108 rfl
          refine ur_inl rfl (rcv_of hc105) (Nat.le_of_ble_eq_true rfl) (Nat.le_of_ble_eq_true rfl) (st_X1_settleSpans hO104 g24 (hu104.tm (hu97.tm t1 (by decide)) (by decide)) (((pre3.un hO0 hO97 hv97 (by decide)).un hO97 hO104 hv104 (by decide)) (fO h104 a1 2).toNat (by omega)).1 (((pre3.un hO0 hO97 hv97 (by decide)).un hO97 hO104 hv104 (by decide)) (fO h104 a1 2).toNat (by omega)).2 (fun w109 h114 hr110 hO114 hv114 hp111 hp112 hp113 => ?_))
          have hu114 : un [16, 2501, 22008, 22009, 22010, 22011, 22012] h104 h114 := hv114.mono (by decide)
          subst hr110
          show uRun _ (uCall Mt _) _ 94 (_, [], _, _, _)
          have t115 := fO_of (k := 1) (hv114.ko (n := 11) hc105 rfl (wid_f (by decide)) (by decide)) rfl
          obtain ⟨g132, f117, f118, f119, f120, f121, f122, f123, f124, f125, o129, f126, f127, f128, hc116, k130, k131⟩ := hO114.word (hu114.tm (hu104.tm (hu97.tm t1 (by decide)) (by decide)) (by decide))
          have t133 := fO_of (k := 1) hc116 rfl
          refine ur_ldA rfl rfl ?_
          refine ur_get rfl (hv114.ko (n := 11) hc105 rfl (wid_f (by decide)) (by decide)) rfl ?_
          refine ur_push rfl ?_
          refine ur_binV rfl (fun x134 e135 => ?_)
          have z136 := any_r x99
          have t137 := ti_sub e135 (by omega) (by omega)
          have t138 := fO_keep (a := 15) (ci := 1) (n := 11) (k := 1) hO104 hO114 hv114 (by decide) rfl (by decide) rfl (by decide)
          have t139 := hv97.nW (by decide)
          have t140 := hv104.nW (by decide)
          have t141 := hv114.nW (by decide)
          have n142 := NA_push pre0 hc91 hc96 (by omega) (by omega) (d103 16 (by decide)) (show fO h104 15 1 = fO h0 15 1 + 1 by omega) hn93
          exact ur_ret rfl rfl (hQ _ _ ⟨_, rfl, by omega⟩ hO114 (hu97.tr (hu104.tr hu114)) (by omega) (n142.un hO104 hO114 hv114 (by decide) (by decide)) (((OWK.st d95 (Or.inl (by decide))).tr (OWK.st d103 (Or.inl (by decide)))).tr (OWK.un hO104 hv114 (by decide))) (((arR_u hO104 hv114 (by decide)).trans (arR_c (d103 16 (by decide)))).trans (show arR h97 16 = (arR h0 16).set (fO h0 15 1).toNat (some a1) by rw [arR_of hc96, ← (show arR h0 16 = _ from arR_of hc91), show arR h0 16 = arR h0 16 from rfl, show f2.toInt.toNat = (fO h0 15 1).toNat from congrArg Int.toNat (show f2.toInt = fO h0 15 1 by omega)])) ⟨fun _ => ((fA_un hO104 hv114 g132 (hu104.tm (hu97.tm t1 (by decide)) (by decide)) (by decide) (by decide)).trans ((fA_un hO97 hv104 g132 (hu97.tm t1 (by decide)) (by decide) (by decide)).trans (fA_un hO0 hv97 g132 t1 (by decide) (by decide)))), fun q => absurd (by omega) q⟩ ⟨fun q => by exfalso; omega, fun _ => ((fA_un hO104 hv114 g132 (hu104.tm (hu97.tm t1 (by decide)) (by decide)) (by decide) (by decide)).trans ((fA_un hO97 hv104 g132 (hu97.tm t1 (by decide)) (by decide) (by decide)).trans (fA_un hO0 hv97 g132 t1 (by decide) (by decide))))⟩ (fun q => by have w := hp111 (by rw [fO_eA ((fA_un hO97 hv104 g132 (hu97.tm t1 (by decide)) (by decide) (by decide)).trans (fA_un hO0 hv97 g132 t1 (by decide) (by decide)))]; exact q); rw [fO_eA ((fA_un hO97 hv104 g132 (hu97.tm t1 (by decide)) (by decide) (by decide)).trans (fA_un hO0 hv97 g132 t1 (by decide) (by decide)))] at w; exact w) (((OW3.st d95 (Or.inl (by decide))).tr (OW3.st d103 (Or.inl (by decide)))).tr hp113))
        · have t143 := ne_no c89
          exfalso
          omega
      · have t144 := eq_no c87
        refine ur_ldA rfl rfl ?_
        refine ur_get rfl hc8 rfl ?_
        refine ur_push rfl ?_
        refine ur_if2 rfl (fun c145 => ?_) (fun c145 => ?_)
        · have t146 := eq_to c145
          refine ur_ldA rfl rfl ?_
          refine ur_get rfl hc8 rfl ?_
          refine ur_push rfl ?_
          refine ur_if2 rfl (fun c147 => ?_) (fun c147 => ?_)
          · have t148 := ne_to c147
            refine ur_ldA rfl rfl ?_
            refine ur_get rfl hc1 rfl ?_
            refine ur_ldA rfl rfl ?_
            refine ur_get rfl hc1 rfl ?_
            refine ur_ldA rfl rfl ?_
            obtain ⟨xs150, hc149, hn151, he152⟩ := hO0.wor (hO0.fix 16 (by decide) rfl)
            refine ur_astAV (W := [16]) (m := 150) rfl hO0 hc149 hc8 (Or.inr ⟨rfl, g24, t1⟩) hn151 (by omega) (Or.inr (Or.inr (wid_fix (by decide) (by decide)))) (fun h155 hO155 hv155 d153 hc154 => ?_)
            have hu155 : un [16, 2501, 22008, 22009, 22010, 22011, 22012] h0 h155 := hv155.mono (by decide)
            refine ur_ldA rfl rfl ?_
            refine ur_dup rfl rfl ?_
            refine ur_get rfl ((d153 _ (by decide)).trans hc1) rfl ?_
            have t156 := fO_of (k := 1) ((d153 _ (by decide)).trans hc1) rfl
            refine ur_push rfl ?_
            refine ur_binV rfl (fun x157 e158 => ?_)
            have z159 := any_r f2
            have t160 := ti_add e158 (by omega) (by omega)
            refine ur_putV (W := [2501]) (fs' := [(.inr (.inr (some 16))), (.inl x157), (.inl f3), (.inl f4), (.inl f5), (.inr (.inr (some 17))), (.inr (.inr (some 18))), (.inr (.inr (some 19))), (.inr (.inr (some 20))), (.inr (.inr (some 21))), (.inr (.inr (some 22)))]) rfl hO155 ((d153 _ (by decide)).trans hc1) (Nat.le_of_ble_eq_true rfl) rfl rfl ⟨rfl, _, _, _, _, rfl, by omega⟩ rfl (Or.inr (by show 1000 + 100 * wid 15 (101, 11) + 1 ∈ _; rw [(wid_f (by decide))]; decide)) (fun h162 hO162 hv162 d161 hc163 => ?_)
            have hu162 : un [16, 2501, 22008, 22009, 22010, 22011, 22012] h155 h162 := hv162.mono (by decide)
            refine ur_ldA rfl rfl ?_
            refine ur_ldA rfl rfl ?_
            have t164 := fO_keep (a := 15) (ci := 1) (n := 11) (k := 1) hO0 hO155 hv155 (by decide) rfl (by decide) rfl (by decide)
            have hc166 := ((d161 _ (ne_tg (hu162.tm (hu155.tm t1 (by decide)) (by decide)) (hO162.fix 15 (by decide) rfl) (by decide))).trans ((d153 _ (ne_tg (hu162.tm (hu155.tm t1 (by decide)) (by decide)) (hO162.fix 16 (by decide) rfl) (by decide))).trans hc8))
            have t165 := fO_of (k := 2) hc166 rfl
            refine ur_inl rfl (rcv_of hc163) (Nat.le_of_ble_eq_true rfl) (Nat.le_of_ble_eq_true rfl) (st_X1_settleSpans hO162 g24 (hu162.tm (hu155.tm t1 (by decide)) (by decide)) (((pre3.un hO0 hO155 hv155 (by decide)).un hO155 hO162 hv162 (by decide)) (fO h162 a1 2).toNat (by omega)).1 (((pre3.un hO0 hO155 hv155 (by decide)).un hO155 hO162 hv162 (by decide)) (fO h162 a1 2).toNat (by omega)).2 (fun w167 h172 hr168 hO172 hv172 hp169 hp170 hp171 => ?_))
            have hu172 : un [16, 2501, 22008, 22009, 22010, 22011, 22012] h162 h172 := hv172.mono (by decide)
            subst hr168
            show uRun _ (uCall Mt _) _ 94 (_, [], _, _, _)
            have t173 := fO_of (k := 1) (hv172.ko (n := 11) hc163 rfl (wid_f (by decide)) (by decide)) rfl
            obtain ⟨g190, f175, f176, f177, f178, f179, f180, f181, f182, f183, o187, f184, f185, f186, hc174, k188, k189⟩ := hO172.word (hu172.tm (hu162.tm (hu155.tm t1 (by decide)) (by decide)) (by decide))
            have t191 := fO_of (k := 1) hc174 rfl
            refine ur_ldA rfl rfl ?_
            refine ur_get rfl (hv172.ko (n := 11) hc163 rfl (wid_f (by decide)) (by decide)) rfl ?_
            refine ur_push rfl ?_
            refine ur_binV rfl (fun x192 e193 => ?_)
            have z194 := any_r x157
            have t195 := ti_sub e193 (by omega) (by omega)
            have t196 := fO_keep (a := 15) (ci := 1) (n := 11) (k := 1) hO162 hO172 hv172 (by decide) rfl (by decide) rfl (by decide)
            have t197 := hv155.nW (by decide)
            have t198 := hv162.nW (by decide)
            have t199 := hv172.nW (by decide)
            have n200 := NA_push pre0 hc149 hc154 (by omega) (by omega) (d161 16 (by decide)) (show fO h162 15 1 = fO h0 15 1 + 1 by omega) hn151
            exact ur_ret rfl rfl (hQ _ _ ⟨_, rfl, by omega⟩ hO172 (hu155.tr (hu162.tr hu172)) (by omega) (n200.un hO162 hO172 hv172 (by decide) (by decide)) (((OWK.st d153 (Or.inl (by decide))).tr (OWK.st d161 (Or.inl (by decide)))).tr (OWK.un hO162 hv172 (by decide))) (((arR_u hO162 hv172 (by decide)).trans (arR_c (d161 16 (by decide)))).trans (show arR h155 16 = (arR h0 16).set (fO h0 15 1).toNat (some a1) by rw [arR_of hc154, ← (show arR h0 16 = _ from arR_of hc149), show arR h0 16 = arR h0 16 from rfl, show f2.toInt.toNat = (fO h0 15 1).toNat from congrArg Int.toNat (show f2.toInt = fO h0 15 1 by omega)])) ⟨fun _ => ((fA_un hO162 hv172 g190 (hu162.tm (hu155.tm t1 (by decide)) (by decide)) (by decide) (by decide)).trans ((fA_un hO155 hv162 g190 (hu155.tm t1 (by decide)) (by decide) (by decide)).trans (fA_un hO0 hv155 g190 t1 (by decide) (by decide)))), fun q => absurd (by omega) q⟩ ⟨fun q => by exfalso; omega, fun _ => ((fA_un hO162 hv172 g190 (hu162.tm (hu155.tm t1 (by decide)) (by decide)) (by decide) (by decide)).trans ((fA_un hO155 hv162 g190 (hu155.tm t1 (by decide)) (by decide) (by decide)).trans (fA_un hO0 hv155 g190 t1 (by decide) (by decide))))⟩ (fun q => by have w := hp169 (by rw [fO_eA ((fA_un hO155 hv162 g190 (hu155.tm t1 (by decide)) (by decide) (by decide)).trans (fA_un hO0 hv155 g190 t1 (by decide) (by decide)))]; exact q); rw [fO_eA ((fA_un hO155 hv162 g190 (hu155.tm t1 (by decide)) (by decide) (by decide)).trans (fA_un hO0 hv155 g190 t1 (by decide) (by decide)))] at w; exact w) (((OW3.st d153 (Or.inl (by decide))).tr (OW3.st d161 (Or.inl (by decide)))).tr hp171))
          · have t201 := ne_no c147
            exfalso
            omega
        · have t202 := eq_no c145
          refine ur_ldA rfl rfl ?_
          refine ur_ldI rfl rfl ?_
          refine ur_putV (W := [22008]) (fs' := [(.inl f9), (.inl f10), (.inl f11), (.inl f12), (.inl f13), (.inl f14), (.inl f15), (.inl f16), (.inl a2), (.inr (.inr o21)), (.inl f18), (.inl f19), (.inl f20)]) rfl hO0 hc8 (Nat.le_of_ble_eq_true rfl) rfl rfl ⟨g24, _, _, _, _, _, _, _, _, _, _, _, _, _, rfl, k22, by omega⟩ rfl (Or.inr (by show 1000 + 100 * wid a1 (110, 13) + 8 ∈ _; rw [(wid_w g24)]; decide)) (fun h204 hO204 hv204 d203 hc205 => ?_)
          have hu204 : un [16, 2501, 22008, 22009, 22010, 22011, 22012] h0 h204 := hv204.mono (by decide)
          refine ur_ldA rfl rfl ?_
          refine ur_get rfl hc205 rfl ?_
          have t206 := fO_of (k := 1) hc205 rfl
          refine ur_push rfl ?_
          refine ur_if2 rfl (fun c207 => ?_) (fun c207 => ?_)
          · have t208 := ne_to c207
            refine ur_ldA rfl rfl ?_
            refine ur_get rfl ((d203 _ (ne_tg (hO204.fix 15 (by decide) rfl) (hu204.tm t1 (by decide)) (by decide))).trans hc1) rfl ?_
            have t209 := fO_of (k := 1) ((d203 _ (ne_tg (hO204.fix 15 (by decide) rfl) (hu204.tm t1 (by decide)) (by decide))).trans hc1) rfl
            refine ur_ldA rfl rfl ?_
            refine ur_get rfl ((d203 _ (ne_tg (hO204.fix 15 (by decide) rfl) (hu204.tm t1 (by decide)) (by decide))).trans hc1) rfl ?_
            refine ur_ldA rfl rfl ?_
            obtain ⟨xs211, hc210, hn212, he213⟩ := hO204.wor (hO204.fix 16 (by decide) rfl)
            refine ur_astAV (W := [16]) (m := 150) rfl hO204 hc210 hc205 (Or.inr ⟨rfl, g24, (hu204.tm t1 (by decide))⟩) hn212 (by omega) (Or.inr (Or.inr (wid_fix (by decide) (by decide)))) (fun h216 hO216 hv216 d214 hc215 => ?_)
            have hu216 : un [16, 2501, 22008, 22009, 22010, 22011, 22012] h204 h216 := hv216.mono (by decide)
            refine ur_ldA rfl rfl ?_
            refine ur_dup rfl rfl ?_
            refine ur_get rfl ((d214 _ (by decide)).trans ((d203 _ (ne_tg (hO204.fix 15 (by decide) rfl) (hu204.tm t1 (by decide)) (by decide))).trans hc1)) rfl ?_
            have t217 := fO_of (k := 1) ((d214 _ (by decide)).trans ((d203 _ (ne_tg (hO204.fix 15 (by decide) rfl) (hu204.tm t1 (by decide)) (by decide))).trans hc1)) rfl
            refine ur_push rfl ?_
            refine ur_binV rfl (fun x218 e219 => ?_)
            have z220 := any_r f2
            have t221 := ti_add e219 (by omega) (by omega)
            refine ur_putV (W := [2501]) (fs' := [(.inr (.inr (some 16))), (.inl x218), (.inl f3), (.inl f4), (.inl f5), (.inr (.inr (some 17))), (.inr (.inr (some 18))), (.inr (.inr (some 19))), (.inr (.inr (some 20))), (.inr (.inr (some 21))), (.inr (.inr (some 22)))]) rfl hO216 ((d214 _ (by decide)).trans ((d203 _ (ne_tg (hO204.fix 15 (by decide) rfl) (hu204.tm t1 (by decide)) (by decide))).trans hc1)) (Nat.le_of_ble_eq_true rfl) rfl rfl ⟨rfl, _, _, _, _, rfl, by omega⟩ rfl (Or.inr (by show 1000 + 100 * wid 15 (101, 11) + 1 ∈ _; rw [(wid_f (by decide))]; decide)) (fun h223 hO223 hv223 d222 hc224 => ?_)
            have hu223 : un [16, 2501, 22008, 22009, 22010, 22011, 22012] h216 h223 := hv223.mono (by decide)
            refine ur_ldA rfl rfl ?_
            refine ur_ldA rfl rfl ?_
            have t225 := fO_keep (a := 15) (ci := 1) (n := 11) (k := 1) hO0 hO204 hv204 (by decide) rfl (by decide) rfl (by decide)
            have t226 := fO_keep (a := 15) (ci := 1) (n := 11) (k := 1) hO204 hO216 hv216 (by decide) rfl (by decide) rfl (by decide)
            have hc228 := ((d222 _ (ne_tg (hu223.tm (hu216.tm (hu204.tm t1 (by decide)) (by decide)) (by decide)) (hO223.fix 15 (by decide) rfl) (by decide))).trans ((d214 _ (ne_tg (hu223.tm (hu216.tm (hu204.tm t1 (by decide)) (by decide)) (by decide)) (hO223.fix 16 (by decide) rfl) (by decide))).trans hc205))
            have t227 := fO_of (k := 2) hc228 rfl
            refine ur_inl rfl (rcv_of hc224) (Nat.le_of_ble_eq_true rfl) (Nat.le_of_ble_eq_true rfl) (st_X1_settleSpans hO223 g24 (hu223.tm (hu216.tm (hu204.tm t1 (by decide)) (by decide)) (by decide)) ((((pre3.un hO0 hO204 hv204 (by decide)).un hO204 hO216 hv216 (by decide)).un hO216 hO223 hv223 (by decide)) (fO h223 a1 2).toNat (by omega)).1 ((((pre3.un hO0 hO204 hv204 (by decide)).un hO204 hO216 hv216 (by decide)).un hO216 hO223 hv223 (by decide)) (fO h223 a1 2).toNat (by omega)).2 (fun w229 h234 hr230 hO234 hv234 hp231 hp232 hp233 => ?_))
            have hu234 : un [16, 2501, 22008, 22009, 22010, 22011, 22012] h223 h234 := hv234.mono (by decide)
            subst hr230
            show uRun _ (uCall Mt _) _ 94 (_, [], _, _, _)
            have t235 := fO_of (k := 1) (hv234.ko (n := 11) hc224 rfl (wid_f (by decide)) (by decide)) rfl
            obtain ⟨g252, f237, f238, f239, f240, f241, f242, f243, f244, f245, o249, f246, f247, f248, hc236, k250, k251⟩ := hO234.word (hu234.tm (hu223.tm (hu216.tm (hu204.tm t1 (by decide)) (by decide)) (by decide)) (by decide))
            have t253 := fO_of (k := 1) hc236 rfl
            refine ur_ldA rfl rfl ?_
            refine ur_get rfl (hv234.ko (n := 11) hc224 rfl (wid_f (by decide)) (by decide)) rfl ?_
            refine ur_push rfl ?_
            refine ur_binV rfl (fun x254 e255 => ?_)
            have z256 := any_r x218
            have t257 := ti_sub e255 (by omega) (by omega)
            have t258 := fO_keep (a := 15) (ci := 1) (n := 11) (k := 1) hO223 hO234 hv234 (by decide) rfl (by decide) rfl (by decide)
            have t259 := hv204.nW (by decide)
            have t260 := hv216.nW (by decide)
            have t261 := hv223.nW (by decide)
            have t262 := hv234.nW (by decide)
            have n263 := NA_push (pre0.un hO0 hO204 hv204 (by decide) (by decide)) hc210 hc215 (by omega) (by omega) (d222 16 (by decide)) (show fO h223 15 1 = fO h204 15 1 + 1 by omega) hn212
            exact ur_ret rfl rfl (hQ _ _ ⟨_, rfl, by omega⟩ hO234 (hu204.tr (hu216.tr (hu223.tr hu234))) (by omega) (n263.un hO223 hO234 hv234 (by decide) (by decide)) ((((OWK.st d203 (Or.inr rfl)).tr (OWK.st d214 (Or.inl (by decide)))).tr (OWK.st d222 (Or.inl (by decide)))).tr (OWK.un hO223 hv234 (by decide))) (((arR_u hO223 hv234 (by decide)).trans (arR_c (d222 16 (by decide)))).trans (show arR h216 16 = (arR h0 16).set (fO h0 15 1).toNat (some a1) by rw [arR_of hc215, ← (show arR h204 16 = _ from arR_of hc210), show arR h204 16 = arR h0 16 from (arR_u hO0 hv204 (by decide)), show f2.toInt.toNat = (fO h0 15 1).toNat from congrArg Int.toNat (show f2.toInt = fO h0 15 1 by omega)])) ⟨fun q => by exfalso; omega, fun _ => ((fA_un hO223 hv234 g252 (hu223.tm (hu216.tm (hu204.tm t1 (by decide)) (by decide)) (by decide)) (by decide) (by decide)).trans ((fA_un hO216 hv223 g252 (hu216.tm (hu204.tm t1 (by decide)) (by decide)) (by decide) (by decide)).trans (fA_un hO204 hv216 g252 (hu204.tm t1 (by decide)) (by decide) (by decide)))).trans (fA_of (k := 8) hc205)⟩ ⟨fun q => by exfalso; omega, fun _ => ((fA_un hO223 hv234 g252 (hu223.tm (hu216.tm (hu204.tm t1 (by decide)) (by decide)) (by decide)) (by decide) (by decide)).trans ((fA_un hO216 hv223 g252 (hu216.tm (hu204.tm t1 (by decide)) (by decide)) (by decide) (by decide)).trans ((fA_un hO204 hv216 g252 (hu204.tm t1 (by decide)) (by decide) (by decide)).trans (fA_un hO0 hv204 g252 t1 (by decide) (by decide)))))⟩ (fun q => by have w := hp231 (by rw [fO_eA ((fA_un hO216 hv223 g252 (hu216.tm (hu204.tm t1 (by decide)) (by decide)) (by decide) (by decide)).trans ((fA_un hO204 hv216 g252 (hu204.tm t1 (by decide)) (by decide) (by decide)).trans (fA_un hO0 hv204 g252 t1 (by decide) (by decide))))]; exact q); rw [fO_eA ((fA_un hO216 hv223 g252 (hu216.tm (hu204.tm t1 (by decide)) (by decide)) (by decide) (by decide)).trans ((fA_un hO204 hv216 g252 (hu204.tm t1 (by decide)) (by decide) (by decide)).trans (fA_un hO0 hv204 g252 t1 (by decide) (by decide))))] at w; exact w) ((((OW3.st d203 (Or.inr rfl)).tr (OW3.st d214 (Or.inl (by decide)))).tr (OW3.st d222 (Or.inl (by decide)))).tr hp233))
          · have t264 := ne_no c207
            refine ur_ldA rfl rfl ?_
            refine ur_ldI rfl rfl ?_
            have t265 := fO_of (k := 1) ((d203 _ (ne_tg (hO204.fix 15 (by decide) rfl) (hu204.tm t1 (by decide)) (by decide))).trans hc1) rfl
            have t266 := fO_keep (a := 15) (ci := 1) (n := 11) (k := 1) hO0 hO204 hv204 (by decide) rfl (by decide) rfl (by decide)
            refine ur_inl rfl (rcv_of ((d203 _ (ne_tg (hO204.fix 15 (by decide) rfl) (hu204.tm t1 (by decide)) (by decide))).trans hc1)) (Nat.le_of_ble_eq_true rfl) (Nat.le_of_ble_eq_true rfl) (se_X1_wordAt hO204 _ (pre0.un hO0 hO204 hv204 (by decide) (by decide)) (fun w267 hr268 => ?_))
            obtain ⟨o269, rfl, k270, t271, t272⟩ := hr268
            show uRun _ (uCall Mt _) _ 54 (_, [(.inr (.inr o269))], _, _, _)
            refine ur_svAk [some (.inr (.inr (some 15))), some (.inr (.inr (some a1))), some (.inl a2), some (.inr (.inr o269))] rfl rfl ?_
            refine ur_ldA rfl rfl ?_
            cases o269 with
            | none =>
              refine ur_nulN rfl ?_
              have t274 := t271 rfl
              exfalso
              omega
            | some r273 =>
              refine ur_nulS rfl ?_
              have k275 := k270 _ rfl
              have t276 := t272 _ rfl
              refine ur_ldA rfl rfl ?_
              refine ur_ldA rfl rfl ?_
              obtain ⟨g293, f278, f279, f280, f281, f282, f283, f284, f285, f286, o290, f287, f288, f289, hc277, k291, k292⟩ := hO204.word k275.2
              refine ur_inl rfl (rcv_of hc277) (Nat.le_of_ble_eq_true rfl) (Nat.le_of_ble_eq_true rfl) (sd_X10_rootWord hO204 g293 k275.2 (fun w294 hr295 => ?_))
              obtain ⟨r296, rfl, k297, f298⟩ := hr295
              show uRun _ (uCall Mt _) _ 66 (_, [(.inr (.inr (some r296))), (.inr (.inr (some a1)))], _, _, _)
              refine ur_inl rfl (rcv_of hc205) (Nat.le_of_ble_eq_true rfl) (Nat.le_of_ble_eq_true rfl) (st_X10_copyFrom hO204 g24 (hu204.tm t1 (by decide)) k297.1 k297.2 (fun w299 h304 hr300 hO304 hv304 hp301 hp302 hp303 => ?_))
              have hu304 : un [16, 2501, 22008, 22009, 22010, 22011, 22012] h204 h304 := hv304.mono (by decide)
              subst hr300
              show uRun _ (uCall Mt _) _ 69 (_, [], _, _, _)
              have t305 := fO_of (k := 1) (hv304.ko (n := 11) ((d203 _ (ne_tg (hO204.fix 15 (by decide) rfl) (hu204.tm t1 (by decide)) (by decide))).trans hc1) rfl (wid_f (by decide)) (by decide)) rfl
              obtain ⟨g322, f307, f308, f309, f310, f311, f312, f313, f314, f315, o319, f316, f317, f318, hc306, k320, k321⟩ := hO304.word (hu304.tm (hu204.tm t1 (by decide)) (by decide))
              have t323 := fO_of (k := 1) hc306 rfl
              refine ur_ldA rfl rfl ?_
              refine ur_get rfl (hv304.ko (n := 11) ((d203 _ (ne_tg (hO204.fix 15 (by decide) rfl) (hu204.tm t1 (by decide)) (by decide))).trans hc1) rfl (wid_f (by decide)) (by decide)) rfl ?_
              refine ur_ldA rfl rfl ?_
              refine ur_get rfl (hv304.ko (n := 11) ((d203 _ (ne_tg (hO204.fix 15 (by decide) rfl) (hu204.tm t1 (by decide)) (by decide))).trans hc1) rfl (wid_f (by decide)) (by decide)) rfl ?_
              refine ur_ldA rfl rfl ?_
              obtain ⟨xs325, hc324, hn326, he327⟩ := hO304.wor (hO304.fix 16 (by decide) rfl)
              refine ur_astAV (W := [16]) (m := 150) rfl hO304 hc324 hc306 (Or.inr ⟨rfl, g322, (hu304.tm (hu204.tm t1 (by decide)) (by decide))⟩) hn326 (by omega) (Or.inr (Or.inr (wid_fix (by decide) (by decide)))) (fun h330 hO330 hv330 d328 hc329 => ?_)
              have hu330 : un [16, 2501, 22008, 22009, 22010, 22011, 22012] h304 h330 := hv330.mono (by decide)
              refine ur_ldA rfl rfl ?_
              refine ur_dup rfl rfl ?_
              refine ur_get rfl ((d328 _ (by decide)).trans (hv304.ko (n := 11) ((d203 _ (ne_tg (hO204.fix 15 (by decide) rfl) (hu204.tm t1 (by decide)) (by decide))).trans hc1) rfl (wid_f (by decide)) (by decide))) rfl ?_
              have t331 := fO_of (k := 1) ((d328 _ (by decide)).trans (hv304.ko (n := 11) ((d203 _ (ne_tg (hO204.fix 15 (by decide) rfl) (hu204.tm t1 (by decide)) (by decide))).trans hc1) rfl (wid_f (by decide)) (by decide))) rfl
              refine ur_push rfl ?_
              refine ur_binV rfl (fun x332 e333 => ?_)
              have z334 := any_r f2
              have t335 := ti_add e333 (by omega) (by omega)
              refine ur_putV (W := [2501]) (fs' := [(.inr (.inr (some 16))), (.inl x332), (.inl f3), (.inl f4), (.inl f5), (.inr (.inr (some 17))), (.inr (.inr (some 18))), (.inr (.inr (some 19))), (.inr (.inr (some 20))), (.inr (.inr (some 21))), (.inr (.inr (some 22)))]) rfl hO330 ((d328 _ (by decide)).trans (hv304.ko (n := 11) ((d203 _ (ne_tg (hO204.fix 15 (by decide) rfl) (hu204.tm t1 (by decide)) (by decide))).trans hc1) rfl (wid_f (by decide)) (by decide))) (Nat.le_of_ble_eq_true rfl) rfl rfl ⟨rfl, _, _, _, _, rfl, by omega⟩ rfl (Or.inr (by show 1000 + 100 * wid 15 (101, 11) + 1 ∈ _; rw [(wid_f (by decide))]; decide)) (fun h337 hO337 hv337 d336 hc338 => ?_)
              have hu337 : un [16, 2501, 22008, 22009, 22010, 22011, 22012] h330 h337 := hv337.mono (by decide)
              refine ur_ldA rfl rfl ?_
              refine ur_ldA rfl rfl ?_
              have t339 := fO_keep (a := 15) (ci := 1) (n := 11) (k := 1) hO204 hO304 hv304 (by decide) rfl (by decide) rfl (by decide)
              have t340 := fO_keep (a := 15) (ci := 1) (n := 11) (k := 1) hO304 hO330 hv330 (by decide) rfl (by decide) rfl (by decide)
              have hc342 := ((d336 _ (ne_tg (hu337.tm (hu330.tm (hu304.tm (hu204.tm t1 (by decide)) (by decide)) (by decide)) (by decide)) (hO337.fix 15 (by decide) rfl) (by decide))).trans ((d328 _ (ne_tg (hu337.tm (hu330.tm (hu304.tm (hu204.tm t1 (by decide)) (by decide)) (by decide)) (by decide)) (hO337.fix 16 (by decide) rfl) (by decide))).trans hc306))
              have t341 := fO_of (k := 2) hc342 rfl
              refine ur_inl rfl (rcv_of hc338) (Nat.le_of_ble_eq_true rfl) (Nat.le_of_ble_eq_true rfl) (st_X1_settleSpans hO337 g322 (hu337.tm (hu330.tm (hu304.tm (hu204.tm t1 (by decide)) (by decide)) (by decide)) (by decide)) (((((pre3.un hO0 hO204 hv204 (by decide)).un hO204 hO304 hv304 (by decide)).un hO304 hO330 hv330 (by decide)).un hO330 hO337 hv337 (by decide)) (fO h337 a1 2).toNat (by omega)).1 (((((pre3.un hO0 hO204 hv204 (by decide)).un hO204 hO304 hv304 (by decide)).un hO304 hO330 hv330 (by decide)).un hO330 hO337 hv337 (by decide)) (fO h337 a1 2).toNat (by omega)).2 (fun w343 h348 hr344 hO348 hv348 hp345 hp346 hp347 => ?_))
              have hu348 : un [16, 2501, 22008, 22009, 22010, 22011, 22012] h337 h348 := hv348.mono (by decide)
              subst hr344
              show uRun _ (uCall Mt _) _ 94 (_, [], _, _, _)
              have t349 := fO_of (k := 1) (hv348.ko (n := 11) hc338 rfl (wid_f (by decide)) (by decide)) rfl
              obtain ⟨g366, f351, f352, f353, f354, f355, f356, f357, f358, f359, o363, f360, f361, f362, hc350, k364, k365⟩ := hO348.word (hu348.tm (hu337.tm (hu330.tm (hu304.tm (hu204.tm t1 (by decide)) (by decide)) (by decide)) (by decide)) (by decide))
              have t367 := fO_of (k := 1) hc350 rfl
              refine ur_ldA rfl rfl ?_
              refine ur_get rfl (hv348.ko (n := 11) hc338 rfl (wid_f (by decide)) (by decide)) rfl ?_
              refine ur_push rfl ?_
              refine ur_binV rfl (fun x368 e369 => ?_)
              have z370 := any_r x332
              have t371 := ti_sub e369 (by omega) (by omega)
              have t372 := fO_keep (a := 15) (ci := 1) (n := 11) (k := 1) hO337 hO348 hv348 (by decide) rfl (by decide) rfl (by decide)
              have t373 := hv204.nW (by decide)
              have t374 := hv304.nW (by decide)
              have t375 := hv330.nW (by decide)
              have t376 := hv337.nW (by decide)
              have t377 := hv348.nW (by decide)
              have n378 := NA_push ((pre0.un hO0 hO204 hv204 (by decide) (by decide)).un hO204 hO304 hv304 (by decide) (by decide)) hc324 hc329 (by omega) (by omega) (d336 16 (by decide)) (show fO h337 15 1 = fO h304 15 1 + 1 by omega) hn326
              exact ur_ret rfl rfl (hQ _ _ ⟨_, rfl, by omega⟩ hO348 (hu204.tr (hu304.tr (hu330.tr (hu337.tr hu348)))) (by omega) (n378.un hO337 hO348 hv348 (by decide) (by decide)) (((((OWK.st d203 (Or.inr rfl)).tr hp301).tr (OWK.st d328 (Or.inl (by decide)))).tr (OWK.st d336 (Or.inl (by decide)))).tr (OWK.un hO337 hv348 (by decide))) (((arR_u hO337 hv348 (by decide)).trans (arR_c (d336 16 (by decide)))).trans (show arR h330 16 = (arR h0 16).set (fO h0 15 1).toNat (some a1) by rw [arR_of hc329, ← (show arR h304 16 = _ from arR_of hc324), show arR h304 16 = arR h0 16 from ((arR_u hO204 hv304 (by decide)).trans (arR_u hO0 hv204 (by decide))), show f2.toInt.toNat = (fO h0 15 1).toNat from congrArg Int.toNat (show f2.toInt = fO h0 15 1 by omega)])) ⟨fun q => by exfalso; omega, fun _ => ((fA_un hO337 hv348 g366 (hu337.tm (hu330.tm (hu304.tm (hu204.tm t1 (by decide)) (by decide)) (by decide)) (by decide)) (by decide) (by decide)).trans ((fA_un hO330 hv337 g366 (hu330.tm (hu304.tm (hu204.tm t1 (by decide)) (by decide)) (by decide)) (by decide) (by decide)).trans ((fA_un hO304 hv330 g366 (hu304.tm (hu204.tm t1 (by decide)) (by decide)) (by decide) (by decide)).trans (fA_un hO204 hv304 g366 (hu204.tm t1 (by decide)) (by decide) (by decide))))).trans (fA_of (k := 8) hc205)⟩ ⟨fun _ => by have w0 : wz h0 a2.toInt r273 := wz_c (arR_u hO0 hv204 (by decide)) t276.2; have TT204 := wz_ok hO0 w0; exact ⟨r273, r296, w0, rtz_c (fA_un hO0 hv204 TT204.1 TT204.2 (by decide) (by decide)) f298, ((fA_un hO337 hv348 g366 (hu337.tm (hu330.tm (hu304.tm (hu204.tm t1 (by decide)) (by decide)) (by decide)) (by decide)) (by decide) (by decide)).trans ((fA_un hO330 hv337 g366 (hu330.tm (hu304.tm (hu204.tm t1 (by decide)) (by decide)) (by decide)) (by decide) (by decide)).trans (fA_un hO304 hv330 g366 (hu304.tm (hu204.tm t1 (by decide)) (by decide)) (by decide) (by decide)))).trans hp302⟩, fun q => by exfalso; omega⟩ (fun q => by have w := hp345 (by rw [fO_eA ((fA_un hO330 hv337 g366 (hu330.tm (hu304.tm (hu204.tm t1 (by decide)) (by decide)) (by decide)) (by decide) (by decide)).trans ((fA_un hO304 hv330 g366 (hu304.tm (hu204.tm t1 (by decide)) (by decide)) (by decide) (by decide)).trans ((fA_un hO204 hv304 g366 (hu204.tm t1 (by decide)) (by decide) (by decide)).trans (fA_un hO0 hv204 g366 t1 (by decide) (by decide)))))]; exact q); rw [fO_eA ((fA_un hO330 hv337 g366 (hu330.tm (hu304.tm (hu204.tm t1 (by decide)) (by decide)) (by decide)) (by decide) (by decide)).trans ((fA_un hO304 hv330 g366 (hu304.tm (hu204.tm t1 (by decide)) (by decide)) (by decide) (by decide)).trans ((fA_un hO204 hv304 g366 (hu204.tm t1 (by decide)) (by decide) (by decide)).trans (fA_un hO0 hv204 g366 t1 (by decide) (by decide)))))] at w; exact w) (((((OW3.st d203 (Or.inr rfl)).tr hp303).tr (OW3.st d328 (Or.inl (by decide)))).tr (OW3.st d336 (Or.inl (by decide)))).tr hp347))
  · have t379 := lt_no c27
    exfalso
    omega

end BOK
