/-! THE READER OF TEXTS: stretches of steps, and what stays of them -/
section PRS
def iL (h : aH) : Nat := (fI h 23).toNat + 1430
def kp (h h' : aH) (n : Nat) : Prop := ∀ i, i < n → (arI h' 83)[i]? = (arI h 83)[i]? ∧ (arI h' 84)[i]? = (arI h 84)[i]?
def bk (h : aH) (i j : Nat) : Prop := ∀ k, rns (seg (arI h 83) (arI h 84) i j) k = some (k + 1)
def sA (h : aH) (i : Nat) (k : Int) (b : Int32) : Prop := ∃ x, (arI h 83)[i]? = some x ∧ x.toInt = k ∧ (arI h 84)[i]? = some b
theorem kp.rf {h : aH} {n : Nat} : kp h h n := fun _ _ => ⟨rfl, rfl⟩
theorem kp.tr {a b c : aH} {n m : Nat} (g : kp a b n) (f : kp b c m) (hn : n ≤ m) : kp a c n := fun i hi => ⟨(f i (by omega)).1.trans (g i hi).1, (f i (by omega)).2.trans (g i hi).2⟩
theorem kp_un {W : List Nat} {h h' : aH} (hO : OK h) (g : un W h h') (w3 : 83 ∉ W) (w4 : 84 ∉ W) (n : Nat) : kp h h' n := fun i _ => by
  rw [arI_keep (a := 83) hO g (by decide) rfl (by decide) rfl (by decide) w3, arI_keep (a := 84) hO g (by decide) rfl (by decide) rfl (by decide) w4]
  exact ⟨rfl, rfl⟩
theorem rns_app (l m : List (Int32 × Int32)) (n : Nat) : rns (l ++ m) n = match rns l n with
    | some k => rns m k
    | none => none := by
  induction l generalizing n with
  | nil => rfl
  | cons q l ih =>
    show (match stp n q with
      | some m' => rns (l ++ m) m'
      | none => none) = (match (match stp n q with
        | some m' => rns l m'
        | none => none) with
      | some k => rns m k
      | none => none)
    cases stp n q with
    | none => rfl
    | some m' => exact ih m'
theorem seg_app {A B : List Int32} {i j k : Nat} (h1 : i ≤ j) (h2 : j ≤ k) : seg A B i k = seg A B i j ++ seg A B j k := by
  unfold seg
  rw [show k - i = (j - i) + (k - j) by omega, List.take_add, List.drop_drop, show i + (j - i) = j by omega]
theorem seg_one {A B : List Int32} {i : Nat} {a b : Int32} (ha : A[i]? = some a) (hb : B[i]? = some b) : seg A B i (i + 1) = [(a, b)] := by
  rw [seg_cons ha hb (Nat.lt_succ_self i)]
  unfold seg
  rw [Nat.sub_self, List.take_zero]
theorem seg_same {A B A' B' : List Int32} {i j : Nat} (h : ∀ k, k < j → A'[k]? = A[k]? ∧ B'[k]? = B[k]?) : seg A' B' i j = seg A B i j := by
  apply List.ext_getElem?
  intro k
  unfold seg
  rw [List.getElem?_take, List.getElem?_take]
  by_cases q : k < j - i
  · rw [if_pos q, if_pos q, List.getElem?_drop, List.getElem?_drop]
    obtain ⟨e1, e2⟩ := h (i + k) (by omega)
    show (List.zipWith Prod.mk A' B')[i + k]? = (List.zipWith Prod.mk A B)[i + k]?
    rw [List.getElem?_zipWith, List.getElem?_zipWith, e1, e2]
  · rw [if_neg q, if_neg q]
theorem bk.keep {h h' : aH} {i j : Nat} (g : bk h i j) (k : kp h h' j) : bk h' i j := fun n => by
  rw [seg_same (fun m hm => k m hm)]
  exact g n
theorem bk_push {h : aH} {i i' j : Nat} {k : Int} {b : Int32} (s : sA h i k b) (hk : k = 1 ∨ (k = 2 ∧ 0 ≤ b.toInt ∧ b.toInt ≤ 9)) (ei : i' = i) (e : j = i + 1) : bk h i' j := fun n => by
  obtain ⟨x, h1, h2, h3⟩ := s
  rw [e, ei, seg_one h1 h3]
  show (match stp n (x, b) with
    | some m => some m
    | none => none) = _
  unfold stp
  rw [if_pos (show x.toInt = 1 ∨ (x.toInt = 2 ∧ 0 ≤ b.toInt ∧ b.toInt ≤ 9) by omega)]
theorem bk_un {h h' : aH} {i j m m' : Nat} {k : Int} {b : Int32} (g : bk h i j) (f : kp h h' j) (s : sA h' m k b) (em : m = j) (hk : k = 3 ∨ k = 4) (e : m' = m + 1) (hij : i ≤ j) : bk h' i m' := fun n => by
  obtain ⟨x, h1, h2, h3⟩ := s
  rw [e, seg_app (j := m) (by omega) (by omega), rns_app, em, g.keep f n]
  rw [em] at h1 h3
  rw [seg_one h1 h3]
  show (match stp (n + 1) (x, b) with
    | some m => some m
    | none => none) = _
  unfold stp
  dsimp only
  rw [if_neg (show ¬ (x.toInt = 1 ∨ (x.toInt = 2 ∧ 0 ≤ b.toInt ∧ b.toInt ≤ 9)) by omega), if_neg (show ¬ x.toInt = 2 by omega), if_pos (show x.toInt = 3 ∨ x.toInt = 4 by omega), if_pos (show 1 ≤ n + 1 by omega)]
theorem bk_bin {h1 h2 h3 : aH} {i j j' l m m' : Nat} {k : Int} {b : Int32} (g1 : bk h1 i j) (f1 : kp h1 h2 j) (g2 : bk h2 j' l) (ej : j' = j) (f2 : kp h2 h3 l) (s : sA h3 m k b) (em : m = l) (hk : k ≠ 1 ∧ k ≠ 2 ∧ k ≠ 3 ∧ k ≠ 4) (e : m' = m + 1) (hij : i ≤ j) (hjl : j ≤ l) : bk h3 i m' := fun n => by
  obtain ⟨x, q1, q2, q3⟩ := s
  subst ej
  subst em
  rw [e, seg_app (j := m) (by omega) (by omega), rns_app, seg_app (i := i) (j := j') (k := m) hij hjl, rns_app, (g1.keep f1).keep (fun a ha => f2 a (by omega)) n]
  show (match rns (seg (arI h3 83) (arI h3 84) j' m) (n + 1) with
    | some k => rns (seg (arI h3 83) (arI h3 84) m (m + 1)) k
    | none => none) = _
  rw [g2.keep f2 (n + 1), seg_one q1 q3]
  show (match stp (n + 1 + 1) (x, b) with
    | some m => some m
    | none => none) = _
  unfold stp
  dsimp only
  rw [if_neg (show ¬ (x.toInt = 1 ∨ (x.toInt = 2 ∧ 0 ≤ b.toInt ∧ b.toInt ≤ 9)) by omega), if_neg (show ¬ x.toInt = 2 by omega), if_neg (show ¬ (x.toInt = 3 ∨ x.toInt = 4) by omega), if_pos (show 2 ≤ n + 1 + 1 by omega)]
  rfl
theorem bk_cast {h : aH} {i j i' j' : Nat} (g : bk h i j) (e1 : i' = i) (e2 : j' = j) : bk h i' j' := by
  subst e1
  subst e2
  exact g
theorem nar_b {x : Int32} (h : -128 ≤ x.toInt ∧ x.toInt ≤ 127) : (x.toInt8.toInt32).toInt = x.toInt := by
  rw [Int8.toInt_toInt32, Int32.toInt_toInt8]
  unfold Int.bmod
  simp only []
  split <;> omega
theorem nar_s {x : Int32} (h : -32768 ≤ x.toInt ∧ x.toInt ≤ 32767) : (x.toInt16.toInt32).toInt = x.toInt := by
  rw [Int16.toInt_toInt32, Int32.toInt_toInt16]
  unfold Int.bmod
  simp only []
  split <;> omega
theorem nar_vb {x : Int32} (h : -128 ≤ x.toInt ∧ x.toInt ≤ 127) : (vp_nar .byte x).toInt = x.toInt := nar_b h
theorem nar_vs {x : Int32} (h : -32768 ≤ x.toInt ∧ x.toInt ≤ 32767) : (vp_nar .short x).toInt = x.toInt := nar_s h
/-- what one step laid leaves -/
theorem lay_kp {h h' : aH} {xs ys : List Int32} {j j' x y : Int32} {k1 k2 k3 k4 n : Nat} (hc : h[83]? = some (.inr (k1, .inl xs))) (hd : h'[83]? = some (.inr (k2, .inl (xs.set j.toInt.toNat x)))) (he : h[84]? = some (.inr (k3, .inl ys))) (hf : h'[84]? = some (.inr (k4, .inl (ys.set j'.toInt.toNat y)))) (e1 : n ≤ j.toInt.toNat) (e2 : n ≤ j'.toInt.toNat) : kp h h' n := fun i hi => by
  rw [arI_of hc, arI_of hd, arI_of he, arI_of hf, List.getElem?_set_ne (by omega), List.getElem?_set_ne (by omega)]
  exact ⟨rfl, rfl⟩
theorem lay_sA {h' : aH} {xs ys : List Int32} {j j' x y : Int32} {k2 k4 n : Nat} {k : Int} (hd : h'[83]? = some (.inr (k2, .inl (xs.set j.toInt.toNat x)))) (hf : h'[84]? = some (.inr (k4, .inl (ys.set j'.toInt.toNat y)))) (e1 : n = j.toInt.toNat) (e2 : n = j'.toInt.toNat) (l1 : n < xs.length) (l2 : n < ys.length) (hx : x.toInt = k) : sA h' n k y := by
  unfold sA
  rw [arI_of hd, arI_of hf]
  subst e1
  refine ⟨x, List.getElem?_set_self l1, hx, ?_⟩
  rw [← e2]
  exact List.getElem?_set_self l2
/-- the byte that is looked at -/
def lkV (h : aH) : Int := if fI h 20 < fI h 19 then ((arI h 82).getD (fI h 20).toNat 0).toInt else -1
theorem lkV_of {h : aH} {xs : List Int32} {j x : Int32} {kd : Nat} (hc : h[82]? = some (.inr (kd, .inl xs))) (hx : xs[j.toInt.toNat]? = some x) (hj : fI h 20 = j.toInt) (hl : fI h 20 < fI h 19) : x.toInt = lkV h := by
  unfold lkV
  rw [if_pos hl, arI_of hc, hj, List.getD_eq_getElem?_getD, hx]
  rfl
theorem lkV_no {h : aH} (hl : ¬ fI h 20 < fI h 19) : lkV h = -1 := by
  unfold lkV
  rw [if_neg hl]
end PRS
