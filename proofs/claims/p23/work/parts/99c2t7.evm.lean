/-! WHAT A TEXT GIVES, on the side of the reference; printed by program but for its head -/
section EVM
/- the reference's run over a stretch of steps -/
def nuM (h : aH) : Int → Int32 := fun j => (arI h 88).getD j.toNat 0
def sgp (h : aH) (i j : Nat) : List (Int × Int) := (seg (arI h 83) (arI h 84) i j).map (fun q => (q.1.toInt, q.2.toInt))
theorem sgp_at {h h0 : aH} {xs ys : List Int32} {k1 k2 b e k : Nat} {a c : Int32} {E : List (Int × Int)} (eE : sgp h0 b e = E) (e3 : arI h 83 = arI h0 83) (e4 : arI h 84 = arI h0 84) (hc : h[83]? = some (.inr (k1, .inl xs))) (hd : h[84]? = some (.inr (k2, .inl ys))) (hx : xs[k]? = some a) (hy : ys[k]? = some c) (hb : b ≤ k ∧ k < e) {i : Int} (hi : i = (k : Int) - (b : Int)) : E[i.toNat]? = some (a.toInt, c.toInt) := by
  subst hi
  rw [← eE]
  unfold sgp seg
  rw [List.getElem?_map, List.getElem?_take, if_pos (by omega), List.getElem?_drop, show b + ((k : Int) - (b : Int)).toNat = k by omega, ← e3, ← e4, arI_of hc, arI_of hd]
  have z : (xs.zip ys)[k]? = some (a, c) := by rw [List.getElem?_zip_eq_some]; exact ⟨hx, hy⟩
  rw [z]
  rfl
theorem sgp_len {h : aH} (hO : OK h) {b e : Nat} {E : List (Int × Int)} (eE : sgp h b e = E) (hb : b ≤ e ∧ e ≤ 1560) : (E.length : Int) = (e : Int) - (b : Int) := by
  obtain ⟨xs, hc, hn, -⟩ := hO.byt (hO.fix 83 (by decide) rfl)
  obtain ⟨ys, hd, hm, -⟩ := hO.int (hO.fix 84 (by decide) rfl)
  rw [← eE]
  unfold sgp seg
  rw [List.length_map, List.length_take, List.length_drop, List.length_zip, arI_of hc, arI_of hd, hn, hm]
  omega
def WS (E : List (Int × Int)) (ν : Int → Int32) (v : Int32) (L : List Int32) (n i : Int) : Prop := ∃ s : List Int32, (s.length : Int) = n ∧ PL L s ∧ 0 ≤ i ∧ tev ν 130 (E.drop i.toNat) s = some [v] ∧ ∀ x ∈ E.drop i.toNat, tok x
theorem WS.z {E : List (Int × Int)} {ν : Int → Int32} {v : Int32} {L : List Int32} {n i : Int} (hE : blE 36 E) (hv : v = tvv ν E) (en : n = 0) (ei : i = 0) : WS E ν v L n i := by
  subst en ei hv
  exact ⟨[], rfl, PL.nil, by omega, tvv_e hE (by omega) (by omega), hE.2.1⟩
theorem WS.go {E : List (Int × Int)} {ν : Int → Int32} {v : Int32} {L : List Int32} {n i : Int} {a x : Int} (H : WS E ν v L n i) (hE : E[i.toNat]? = some (a, x)) : ∃ s s' : List Int32, (s.length : Int) = n ∧ PL L s ∧ 0 ≤ i ∧ tok (a, x) ∧ tk ν 130 a x s = some s' ∧ tev ν 130 (E.drop (i.toNat + 1)) s' = some [v] ∧ ∀ x ∈ E.drop (i.toNat + 1), tok x := by
  obtain ⟨s, h1, h2, h3, h4, h5⟩ := H
  obtain ⟨hl, he⟩ := List.getElem?_eq_some_iff.mp hE
  have hd : E.drop i.toNat = (a, x) :: E.drop (i.toNat + 1) := by rw [List.drop_eq_getElem_cons hl, he]
  rw [hd] at h4 h5
  have h4 : (match tk ν 130 a x s with
    | some s' => tev ν 130 (E.drop (i.toNat + 1)) s'
    | none => none) = some [v] := h4
  cases k : tk ν 130 a x s with
  | none => rw [k] at h4; exact absurd h4 (by simp)
  | some s' =>
    rw [k] at h4
    exact ⟨s, s', h1, h2, h3, h5 _ List.mem_cons_self, k, h4, fun y hy => h5 y (List.mem_cons_of_mem _ hy)⟩
theorem WS.mk {E : List (Int × Int)} {ν : Int → Int32} {v : Int32} {L L' s : List Int32} {n' i i' j : Int} {X : Int32} (a : PL L s) (n : (s.length : Int) = j) (h0 : 0 ≤ i) (hl : L.length = 130) (hj : j < 130) (eL : L' = L.set j.toNat X) (en : n' = j + 1) (ei : i' = i + 1) (c : tev ν 130 (E.drop (i.toNat + 1)) (X :: s) = some [v]) (t : ∀ x ∈ E.drop (i.toNat + 1), tok x) : WS E ν v L' n' i' := by
  subst eL ei en
  refine ⟨X :: s, by rw [List.length_cons]; omega, a.push (by omega) (by omega), by omega, ?_, ?_⟩
  · rw [show (i + 1).toNat = i.toNat + 1 by omega]
    exact c
  · rw [show (i + 1).toNat = i.toNat + 1 by omega]
    exact t
theorem WS.k12 {E : List (Int × Int)} {ν : Int → Int32} {v : Int32} {L L' : List Int32} {n n' i i' j a x : Int} {X : Int32} (H : WS E ν v L n i) (hE : E[i.toNat]? = some (a, x)) (hX : a = 1 ∧ X.toInt = x ∨ a = 2 ∧ X = ν x) (hl : L.length = 130) (eL : L' = L.set j.toNat X) (hj : j = n) (en : n' = n + 1) (ei : i' = i + 1) : WS E ν v L' n' i' := by
  obtain ⟨s, s', h1, h2, h3, h4, h5, h6, h7⟩ := H.go hE
  unfold tk at h5
  rw [if_pos (by omega)] at h5
  by_cases q : (s.length : Int) + 1 ≤ 130
  · rw [if_pos q] at h5
    have h5 := Option.some.inj h5
    have e : (if a = 1 then Int32.ofInt x else ν x) = X := by
      rcases hX with ⟨p, r⟩ | ⟨p, r⟩
      · rw [if_pos p, ← r, Int32.ofInt_toInt]
      · rw [if_neg (by omega), r]
    rw [e] at h5
    subst h5
    exact WS.mk h2 (by omega) h3 hl (by omega) eL (by omega) ei h6 h7
  · rw [if_neg q] at h5
    exact absurd h5 (by simp)
theorem WS.lt {E : List (Int × Int)} {ν : Int → Int32} {v : Int32} {L : List Int32} {n i a x : Int} (H : WS E ν v L n i) (hE : E[i.toNat]? = some (a, x)) : (a = 1 ∨ a = 2 → n < 130 ∧ (a = 2 → 0 ≤ x ∧ x ≤ 9)) ∧ (a ≠ 1 ∧ a ≠ 2 → 1 ≤ n ∧ x = 0) ∧ (a ≠ 1 ∧ a ≠ 2 ∧ a ≠ 3 ∧ a ≠ 4 → 2 ≤ n ∧ (a = 37 ∨ a = 38 ∨ a = 42 ∨ a = 43 ∨ a = 45 ∨ a = 47 ∨ a = 60 ∨ a = 61 ∨ a = 62 ∨ a = 124)) := by
  obtain ⟨s, s', h1, h2, h3, h4, h5, h6, h7⟩ := H.go hE
  have h4 : (a = 1 ∧ 0 ≤ x ∧ x ≤ 999999) ∨ (a = 2 ∧ 0 ≤ x ∧ x ≤ 9) ∨ ((a = 3 ∨ a = 4 ∨ a = 37 ∨ a = 38 ∨ a = 42 ∨ a = 43 ∨ a = 45 ∨ a = 47 ∨ a = 60 ∨ a = 61 ∨ a = 62 ∨ a = 124) ∧ x = 0) := h4
  unfold tk at h5
  refine ⟨fun q => ?_, fun q => ?_, fun q => ?_⟩
  · rw [if_pos q] at h5
    by_cases k : (s.length : Int) + 1 ≤ 130
    · exact ⟨by omega, fun r => by omega⟩
    · rw [if_neg k] at h5
      exact absurd h5 (by simp)
  · rw [if_neg (by omega)] at h5
    cases s with
    | nil =>
      exfalso
      by_cases k3 : a = 3
      · rw [if_pos k3] at h5
        exact absurd h5 (by simp)
      · rw [if_neg k3] at h5
        by_cases k4 : a = 4
        · rw [if_pos k4] at h5
          exact absurd h5 (by simp)
        · rw [if_neg k4] at h5
          exact absurd h5 (by simp)
    | cons y r =>
      rw [List.length_cons] at h1
      exact ⟨by omega, by omega⟩
  · rw [if_neg (by omega), if_neg (by omega), if_neg (by omega)] at h5
    match s, h5, h1 with
    | [], h5, _ => exact absurd h5 (by simp)
    | [_], h5, _ => exact absurd h5 (by simp)
    | y :: z :: r, _, h1 =>
      rw [List.length_cons, List.length_cons] at h1
      exact ⟨by omega, by omega⟩
theorem WS.k34 {E : List (Int × Int)} {ν : Int → Int32} {v : Int32} {L L' : List Int32} {n n' i i' j a x : Int} {X y : Int32} (H : WS E ν v L n i) (hE : E[i.toNat]? = some (a, x)) (hy : L[j.toNat]? = some y) (hX : a = 3 ∧ X = (if y = 0 then 1 else 0) ∨ a = 4 ∧ X = -y) (hl : L.length = 130) (eL : L' = L.set j.toNat X) (hj : j = n - 1) (en : n' = n) (ei : i' = i + 1) : WS E ν v L' n' i' := by
  obtain ⟨s, s', h1, h2, h3, h4, h5, h6, h7⟩ := H.go hE
  have bl := h2.len
  unfold tk at h5
  rw [if_neg (by omega)] at h5
  cases s with
  | nil =>
    rcases hX with ⟨p, r⟩ | ⟨p, r⟩
    · rw [if_pos p] at h5
      exact absurd h5 (by simp)
    · rw [if_neg (by omega), if_pos p] at h5
      exact absurd h5 (by simp)
  | cons z r =>
    rw [List.length_cons] at h1 bl
    obtain rfl := h2.eq hy (by omega)
    rcases hX with ⟨p, q⟩ | ⟨p, q⟩
    · rw [if_pos p] at h5
      have h5 := Option.some.inj h5
      rw [← q] at h5
      subst h5
      exact WS.mk h2.pop (by omega) h3 hl (by omega) eL (by omega) ei h6 h7
    · rw [if_neg (by omega), if_pos p] at h5
      have h5 := Option.some.inj h5
      rw [← q] at h5
      subst h5
      exact WS.mk h2.pop (by omega) h3 hl (by omega) eL (by omega) ei h6 h7
theorem WS.kb {E : List (Int × Int)} {ν : Int → Int32} {v : Int32} {L L' : List Int32} {n n' i i' j j2 a x : Int} {X y z : Int32} (H : WS E ν v L n i) (hE : E[i.toNat]? = some (a, x)) (ha : a ≠ 1 ∧ a ≠ 2 ∧ a ≠ 3 ∧ a ≠ 4) (hz : L[j.toNat]? = some z) (hy : L[j2.toNat]? = some y) (hX : X = tw a z y) (hl : L.length = 130) (eL : L' = L.set j.toNat X) (hj : j = n - 2 ∧ j2 = n - 1) (en : n' = n - 1) (ei : i' = i + 1) : WS E ν v L' n' i' := by
  obtain ⟨s, s', h1, h2, h3, h4, h5, h6, h7⟩ := H.go hE
  have bl := h2.len
  unfold tk at h5
  rw [if_neg (by omega), if_neg (by omega), if_neg (by omega)] at h5
  match s, h5, h1, h2, bl with
  | [], h5, _, _, _ => exact absurd h5 (by simp)
  | [_], h5, _, _, _ => exact absurd h5 (by simp)
  | y' :: z' :: r, h5, h1, h2, bl =>
    rw [List.length_cons, List.length_cons] at h1 bl
    obtain rfl := h2.eq hy (by rw [List.length_cons]; omega)
    obtain rfl := h2.pop.eq hz (by omega)
    have h5 := Option.some.inj h5
    rw [← hX] at h5
    subst h5
    exact WS.mk h2.pop.pop (by omega) h3 hl (by omega) eL (by omega) ei h6 h7
theorem WS.e {E : List (Int × Int)} {ν : Int → Int32} {v y : Int32} {L : List Int32} {n i : Int} (H : WS E ν v L n i) (hi : (E.length : Int) ≤ i) (hy : L[0]? = some y) : y = v := by
  obtain ⟨s, h1, h2, h3, h4, h5⟩ := H
  rw [List.drop_eq_nil_iff.mpr (by omega)] at h4
  have h4 : s = [v] := Option.some.inj h4
  subst h4
  exact (h2.eq (n := 0) hy rfl).symm
theorem nuM_e {h h1 : aH} {kd : Nat} {xs : List Int32} {j z : Int32} {v : Int} (hc : h1[88]? = some (.inr (kd, .inl xs))) (hx : xs[j.toInt.toNat]? = some z) (e : arI h1 88 = arI h 88) (hv : j.toInt = v) : z = nuM h v := by
  subst hv
  unfold nuM
  rw [← e, arI_of hc, List.getD_eq_getElem?_getD, hx]
  rfl
theorem gEx {xs : List Int32} {j : Nat} {n : Nat} (hn : xs.length = n) (hj : j < n) : ∃ z, xs[j]? = some z := ⟨_, List.getElem?_eq_getElem (by omega)⟩
/- line after line -/
def GS (ls : List (List (Int × Int) × List (Int × Int))) (ν : Int → Int32) (R : Int32) (m f : Int) : Prop := 0 ≤ m ∧ m ≤ ls.length ∧ f = (toks (ls.take m.toNat)).length ∧ R = tvl ν (ls.drop m.toNat)
theorem GS.z {ls : List (List (Int × Int) × List (Int × Int))} {ν : Int → Int32} {R : Int32} {m f : Int} (hR : R = tvl ν ls) (em : m = 0) (ef : f = 0) : GS ls ν R m f := by
  subst em ef
  exact ⟨by omega, by omega, rfl, hR⟩
theorem GS.e {ls : List (List (Int × Int) × List (Int × Int))} {ν : Int → Int32} {R : Int32} {m f : Int} (H : GS ls ν R m f) (hm : (ls.length : Int) ≤ m) : R = 0 := by
  obtain ⟨h1, h2, -, h4⟩ := H
  rw [List.drop_eq_nil_iff.mpr (by omega)] at h4
  exact h4
theorem GS.l {ls : List (List (Int × Int) × List (Int × Int))} {ν : Int → Int32} {R : Int32} {m f : Int} (H : GS ls ν R m f) (hm : m < ls.length) : ∃ l, ls[m.toNat]? = some l ∧ l ∈ ls ∧ f = (toks (ls.take m.toNat)).length ∧ (l.1 = [] ∨ tvv ν l.1 ≠ 0 → R = tvv ν l.2) ∧ (l.1 ≠ [] → tvv ν l.1 = 0 → ∀ m' f', m' = m + 1 → f' = f + l.1.length + l.2.length → GS ls ν R m' f') := by
  obtain ⟨h1, h2, h3, h4⟩ := H
  have hl : m.toNat < ls.length := by omega
  rw [List.drop_eq_getElem_cons hl] at h4
  refine ⟨ls[m.toNat], List.getElem?_eq_getElem hl, List.getElem_mem hl, h3, fun q => h4.trans (if_pos q), fun q r m' f' e1 e2 => ?_⟩
  subst e1 e2
  refine ⟨by omega, by omega, ?_, ?_⟩
  · rw [show (m + 1).toNat = m.toNat + 1 by omega, List.take_succ_eq_append_getElem hl, toks_app]
    simp only [List.length_append]
    omega
  · rw [show (m + 1).toNat = m.toNat + 1 by omega]
    exact h4.trans (if_neg (fun s => s.elim q (fun s => s r)))
theorem toks_mid {ls : List (List (Int × Int) × List (Int × Int))} {m : Nat} {l : List (Int × Int) × List (Int × Int)} (h : ls[m]? = some l) : ∃ r, toks ls = toks (ls.take m) ++ l.1 ++ l.2 ++ r := by
  have a : ∀ (x y : List (List (Int × Int) × List (Int × Int))), toks (x ++ y) = toks x ++ toks y := fun x y => by
    induction x with
    | nil => rfl
    | cons q x ih =>
      show q.1 ++ q.2 ++ toks (x ++ y) = q.1 ++ q.2 ++ toks x ++ toks y
      rw [ih, ← List.append_assoc]
  obtain ⟨hl, he⟩ := List.getElem?_eq_some_iff.mp h
  refine ⟨toks (ls.drop (m + 1)), ?_⟩
  have e : ls = ls.take m ++ (l :: ls.drop (m + 1)) := by
    rw [← he, ← List.drop_eq_getElem_cons hl, List.take_append_drop]
  have e2 := congrArg toks e
  rw [a] at e2
  rw [e2]
  show toks (ls.take m) ++ (l.1 ++ l.2 ++ toks (ls.drop (m + 1))) = _
  simp only [List.append_assoc]
theorem tes_at : ∀ (n : Int) (ls : List (List (Int × Int) × List (Int × Int))) (m : Nat) (l : List (Int × Int) × List (Int × Int)), ls[m]? = some l → (tes n ls).getD m 0 = n + (toks (ls.take m)).length + l.1.length ∧ (les n ls).getD m 0 = n + (toks (ls.take m)).length + l.1.length + l.2.length
  | n, [], m, l, h => absurd h (by simp)
  | n, q :: ls, 0, l, h => by
    obtain rfl : q = l := Option.some.inj h
    show n + (q.1.length : Int) = n + ((([] : List (Int × Int)).length : Nat) : Int) + q.1.length ∧ n + (q.1.length : Int) + q.2.length = n + ((([] : List (Int × Int)).length : Nat) : Int) + q.1.length + q.2.length
    exact ⟨by simp, by simp⟩
  | n, q :: ls, m + 1, l, h => by
    have g := tes_at (n + q.1.length + q.2.length) ls m l h
    have e : (((toks ((q :: ls).take (m + 1))).length : Nat) : Int) = q.1.length + q.2.length + (toks (ls.take m)).length := by
      show (((q.1 ++ q.2 ++ toks (ls.take m)).length : Nat) : Int) = _
      simp only [List.length_append]
      omega
    rw [e]
    have g1 : (tes n (q :: ls)).getD (m + 1) 0 = (tes (n + q.1.length + q.2.length) ls).getD m 0 := rfl
    have g2 : (les n (q :: ls)).getD (m + 1) 0 = (les (n + q.1.length + q.2.length) ls).getD m 0 := rfl
    rw [g1, g2, g.1, g.2]
    exact ⟨by omega, by omega⟩
theorem seg_sub {A B : List Int32} {b i j n : Nat} (h1 : i ≤ j) (h2 : j ≤ n) : seg A B (b + i) (b + j) = ((seg A B b (b + n)).drop i).take (j - i) := by
  apply List.ext_getElem?
  intro k
  unfold seg
  rw [List.getElem?_take, List.getElem?_take, List.getElem?_drop, List.getElem?_drop, List.getElem?_take, List.getElem?_drop, show b + j - (b + i) = j - i by omega, show b + n - b = n by omega, show b + i + k = b + (i + k) by omega]
  by_cases q : k < j - i
  · rw [if_pos q, if_pos q, if_pos (by omega)]
  · rw [if_neg q, if_neg q]
theorem RLn.ln {h : aH} {p : Nat} {ls : List (List (Int × Int) × List (Int × Int))} (H : RLn h p ls) {m : Nat} {l : List (Int × Int) × List (Int × Int)} (hm : ls[m]? = some l) {o : Nat} (ho : o = (toks (ls.take m)).length) : ((arI h 86).getD (61 * p + m) 0).toInt = (o : Int) + l.1.length ∧ ((arI h 87).getD (61 * p + m) 0).toInt = (o : Int) + l.1.length + l.2.length ∧ (∀ i j : Nat, i = 130 * p + o → j = i + l.1.length → sgp h i j = l.1) ∧ (∀ i j : Nat, i = 130 * p + o + l.1.length → j = i + l.2.length → sgp h i j = l.2) := by
  obtain ⟨a1, a2, a3, a4, a5, a6⟩ := H
  have hl := (List.getElem?_eq_some_iff.mp hm).1
  have t := tes_at 0 ls m l hm
  obtain ⟨r, er⟩ := toks_mid hm
  have el : (toks ls).length = o + l.1.length + l.2.length + r.length := by
    rw [er, ho]
    simp only [List.length_append]
  subst ho
  refine ⟨by rw [a5 m (by rw [tes_len]; exact hl), t.1]; omega, by rw [a6 m (by rw [les_len]; exact hl), t.2]; omega, fun i j hi hj => ?_, fun i j hi hj => ?_⟩
  · have e := seg_sub (A := arI h 83) (B := arI h 84) (b := 130 * p) (i := (toks (ls.take m)).length) (j := (toks (ls.take m)).length + l.1.length) (n := (toks ls).length) (by omega) (by omega)
    unfold sgp
    rw [hj, hi, Nat.add_assoc, e, List.map_take, List.map_drop, a4, er]
    simp
  · have e := seg_sub (A := arI h 83) (B := arI h 84) (b := 130 * p) (i := (toks (ls.take m)).length + l.1.length) (j := (toks (ls.take m)).length + l.1.length + l.2.length) (n := (toks ls).length) (by omega) (by omega)
    unfold sgp
    rw [hj, hi, show 130 * p + (toks (ls.take m)).length + l.1.length + l.2.length = 130 * p + ((toks (ls.take m)).length + l.1.length + l.2.length) by omega, show 130 * p + (toks (ls.take m)).length + l.1.length = 130 * p + ((toks (ls.take m)).length + l.1.length) by omega, e, List.map_take, List.map_drop, a4, er]
    simp [List.drop_append, List.append_assoc]
    rw [List.drop_eq_nil_of_le (by omega), List.nil_append, List.take_left' rfl]
theorem set_ix {A B : List Int32} {i j : Int} {x : Int32} (e : A = B.set i.toNat x) (h : j = i) : A = B.set j.toNat x := by rw [h]; exact e
theorem nuM_c {h h' : aH} (e : arI h' 88 = arI h 88) : nuM h' = nuM h := by
  unfold nuM
  rw [e]
theorem sgp_c {h h' : aH} (e3 : arI h' 83 = arI h 83) (e4 : arI h' 84 = arI h 84) (i j : Nat) : sgp h' i j = sgp h i j := by
  unfold sgp
  rw [e3, e4]
theorem gd5 {h h0 : aH} {kd : Nat} {xs : List Int32} {p z : Int32} (hc : h[85]? = some (.inr (kd, .inl xs))) (hx : xs[p.toInt.toNat]? = some z) (e : arI h 85 = arI h0 85) : (arI h0 85).getD (iN p) 0 = z := by
  rw [← e, arI_of hc, List.getD_eq_getElem?_getD, show xs[iN p]? = some z from hx]
  rfl
theorem gd6 {h h0 : aH} {a kd n : Nat} {xs : List Int32} {l z : Int32} (hc : h[a]? = some (.inr (kd, .inl xs))) (hx : xs[l.toInt.toNat]? = some z) (e : arI h a = arI h0 a) (hn : n = iN l) : ((arI h0 a).getD n 0).toInt = z.toInt := by
  subst hn
  rw [← e, arI_of hc, List.getD_eq_getElem?_getD, show xs[iN l]? = some z from hx]
  rfl
set_option maxRecDepth 20000 in
set_option maxHeartbeats 4000000 in
theorem st_X12_twoOf {d kc ks : Nat} {h0 : aH} {Q : Option aV → aH → Prop} (hO0 : OK h0) (a0 : Int32) (a1 : Int32) (a2 : Int32) (hQ : ∀ r, (∃ x : Int32, r = some (.inl x) ∧ ((a0.toInt = 37 ∨ a0.toInt = 38 ∨ a0.toInt = 42 ∨ a0.toInt = 43 ∨ a0.toInt = 45 ∨ a0.toInt = 47 ∨ a0.toInt = 60 ∨ a0.toInt = 61 ∨ a0.toInt = 62 ∨ a0.toInt = 124) → x = tw a0.toInt a1 a2)) → Q r h0) : uCall Mt (d + 1) 228 [(.inl a0), (.inl a1), (.inl a2)] h0 kc ks Q := by
  have l_m1 : ((-1) : Int32).toInt = -1 := by decide
  have l_0 : ((0) : Int32).toInt = 0 := by decide
  have l_1 : ((1) : Int32).toInt = 1 := by decide
  refine uc_ink [some (.inl a0), some (.inl a1), some (.inl a2)] mt_228 (Nat.le_of_ble_eq_true rfl) rfl ?_
  refine ur_ldI rfl rfl ?_
  rcases (show (a0.toInt < 37 ∨ 62 < a0.toInt) ∨ a0.toInt = 37 ∨ a0.toInt = 38 ∨ a0.toInt = 39 ∨ a0.toInt = 40 ∨ a0.toInt = 41 ∨ a0.toInt = 42 ∨ a0.toInt = 43 ∨ a0.toInt = 44 ∨ a0.toInt = 45 ∨ a0.toInt = 46 ∨ a0.toInt = 47 ∨ a0.toInt = 48 ∨ a0.toInt = 49 ∨ a0.toInt = 50 ∨ a0.toInt = 51 ∨ a0.toInt = 52 ∨ a0.toInt = 53 ∨ a0.toInt = 54 ∨ a0.toInt = 55 ∨ a0.toInt = 56 ∨ a0.toInt = 57 ∨ a0.toInt = 58 ∨ a0.toInt = 59 ∨ a0.toInt = 60 ∨ a0.toInt = 61 ∨ a0.toInt = 62 by omega) with t1 | t1 | t1 | t1 | t1 | t1 | t1 | t1 | t1 | t1 | t1 | t1 | t1 | t1 | t1 | t1 | t1 | t1 | t1 | t1 | t1 | t1 | t1 | t1 | t1 | t1 | t1
  · refine ur_tabO rfl (by show a0.toInt < 37 ∨ 37 + 26 ≤ a0.toInt; omega) ?_
    refine ur_ldI rfl rfl ?_
    refine ur_if1 rfl (fun c2 => ?_) (fun c2 => ?_)
    · have t3 := ne_to c2
      refine ur_push rfl ?_
      refine ur_go rfl ?_
      exact ur_ret rfl rfl (hQ _ ⟨_, rfl, fun q => by rw [show a0.toInt = 124 by omega, (twk_e (a := 124) (by decide)).2]; exact (twk_b.2 rfl).1 (by omega)⟩ )
    · have t4 := ne_no c2
      refine ur_ldI rfl rfl ?_
      refine ur_if1 rfl (fun c5 => ?_) (fun c5 => ?_)
      · have t6 := eq_to c5
        refine ur_push rfl ?_
        exact ur_ret rfl rfl (hQ _ ⟨_, rfl, fun q => by rw [show a0.toInt = 124 by omega, (twk_e (a := 124) (by decide)).2]; exact (twk_b.2 rfl).2 (by omega)⟩ )
      · have t7 := eq_no c5
        refine ur_push rfl ?_
        refine ur_go rfl ?_
        exact ur_ret rfl rfl (hQ _ ⟨_, rfl, fun q => by rw [show a0.toInt = 124 by omega, (twk_e (a := 124) (by decide)).2]; exact (twk_b.2 rfl).1 (by omega)⟩ )
  · refine ur_tabI rfl (by omega) (by rw [t1]; rfl) ?_
    refine ur_ldI rfl rfl ?_
    refine ur_if1 rfl (fun c8 => ?_) (fun c8 => ?_)
    · have t9 := eq_to c8
      refine ur_push rfl ?_
      refine ur_go rfl ?_
      exact ur_ret rfl rfl (hQ _ ⟨_, rfl, fun q => by rw [show a0.toInt = 37 by omega, (twk_e (a := 37) (by decide)).2]; exact (show _ from (Classical.em (a2.toInt = 0)).elim (fun h => twk_d0 (Or.inr rfl) h) (fun h => twk_m (by omega) (Or.inr ⟨rfl, rfl⟩)))⟩ )
    · have t10 := eq_no c8
      refine ur_ldI rfl rfl ?_
      refine ur_push rfl ?_
      refine ur_if2 rfl (fun c11 => ?_) (fun c11 => ?_)
      · have t12 := ne_to c11
        refine ur_ldI rfl rfl ?_
        refine ur_ldI rfl rfl ?_
        refine ur_divV rfl (of_decide_eq_false c8) (fun x13 e14 => ?_)
        have z15 := any_r a1
        have z16 := any_r a2
        exact ur_ret rfl rfl (hQ _ ⟨_, rfl, fun q => by rw [show a0.toInt = 37 by omega, (twk_e (a := 37) (by decide)).2]; exact twk_d (by omega) (Or.inr ⟨rfl, e14⟩)⟩ )
      · have t17 := ne_no c11
        refine ur_push rfl ?_
        refine ur_go rfl ?_
        exact ur_ret rfl rfl (hQ _ ⟨_, rfl, fun q => by rw [show a0.toInt = 37 by omega, (twk_e (a := 37) (by decide)).2]; exact (show _ from (Classical.em (a2.toInt = 0)).elim (fun h => twk_d0 (Or.inr rfl) h) (fun h => twk_m (by omega) (Or.inr ⟨rfl, rfl⟩)))⟩ )
  · refine ur_tabI rfl (by omega) (by rw [t1]; rfl) ?_
    refine ur_ldI rfl rfl ?_
    refine ur_if1 rfl (fun c18 => ?_) (fun c18 => ?_)
    · have t19 := eq_to c18
      refine ur_push rfl ?_
      exact ur_ret rfl rfl (hQ _ ⟨_, rfl, fun q => by rw [show a0.toInt = 38 by omega, (twk_e (a := 38) (by decide)).2]; exact (twk_b.1 rfl).2 (by omega)⟩ )
    · have t20 := eq_no c18
      refine ur_ldI rfl rfl ?_
      refine ur_if1 rfl (fun c21 => ?_) (fun c21 => ?_)
      · have t22 := eq_to c21
        refine ur_push rfl ?_
        exact ur_ret rfl rfl (hQ _ ⟨_, rfl, fun q => by rw [show a0.toInt = 38 by omega, (twk_e (a := 38) (by decide)).2]; exact (twk_b.1 rfl).2 (by omega)⟩ )
      · have t23 := eq_no c21
        refine ur_push rfl ?_
        refine ur_go rfl ?_
        exact ur_ret rfl rfl (hQ _ ⟨_, rfl, fun q => by rw [show a0.toInt = 38 by omega, (twk_e (a := 38) (by decide)).2]; exact (twk_b.1 rfl).1 (by omega)⟩ )
  · refine ur_tabI rfl (by omega) (by rw [t1]; rfl) ?_
    refine ur_ldI rfl rfl ?_
    refine ur_if1 rfl (fun c24 => ?_) (fun c24 => ?_)
    · have t25 := ne_to c24
      refine ur_push rfl ?_
      refine ur_go rfl ?_
      exact ur_ret rfl rfl (hQ _ ⟨_, rfl, fun q => by exfalso; omega⟩ )
    · have t26 := ne_no c24
      refine ur_ldI rfl rfl ?_
      refine ur_if1 rfl (fun c27 => ?_) (fun c27 => ?_)
      · have t28 := eq_to c27
        refine ur_push rfl ?_
        exact ur_ret rfl rfl (hQ _ ⟨_, rfl, fun q => by exfalso; omega⟩ )
      · have t29 := eq_no c27
        refine ur_push rfl ?_
        refine ur_go rfl ?_
        exact ur_ret rfl rfl (hQ _ ⟨_, rfl, fun q => by exfalso; omega⟩ )
  · refine ur_tabI rfl (by omega) (by rw [t1]; rfl) ?_
    refine ur_ldI rfl rfl ?_
    refine ur_if1 rfl (fun c30 => ?_) (fun c30 => ?_)
    · have t31 := ne_to c30
      refine ur_push rfl ?_
      refine ur_go rfl ?_
      exact ur_ret rfl rfl (hQ _ ⟨_, rfl, fun q => by exfalso; omega⟩ )
    · have t32 := ne_no c30
      refine ur_ldI rfl rfl ?_
      refine ur_if1 rfl (fun c33 => ?_) (fun c33 => ?_)
      · have t34 := eq_to c33
        refine ur_push rfl ?_
        exact ur_ret rfl rfl (hQ _ ⟨_, rfl, fun q => by exfalso; omega⟩ )
      · have t35 := eq_no c33
        refine ur_push rfl ?_
        refine ur_go rfl ?_
        exact ur_ret rfl rfl (hQ _ ⟨_, rfl, fun q => by exfalso; omega⟩ )
  · refine ur_tabI rfl (by omega) (by rw [t1]; rfl) ?_
    refine ur_ldI rfl rfl ?_
    refine ur_if1 rfl (fun c36 => ?_) (fun c36 => ?_)
    · have t37 := ne_to c36
      refine ur_push rfl ?_
      refine ur_go rfl ?_
      exact ur_ret rfl rfl (hQ _ ⟨_, rfl, fun q => by exfalso; omega⟩ )
    · have t38 := ne_no c36
      refine ur_ldI rfl rfl ?_
      refine ur_if1 rfl (fun c39 => ?_) (fun c39 => ?_)
      · have t40 := eq_to c39
        refine ur_push rfl ?_
        exact ur_ret rfl rfl (hQ _ ⟨_, rfl, fun q => by exfalso; omega⟩ )
      · have t41 := eq_no c39
        refine ur_push rfl ?_
        refine ur_go rfl ?_
        exact ur_ret rfl rfl (hQ _ ⟨_, rfl, fun q => by exfalso; omega⟩ )
  · refine ur_tabI rfl (by omega) (by rw [t1]; rfl) ?_
    refine ur_ldI rfl rfl ?_
    refine ur_ldI rfl rfl ?_
    refine ur_binV rfl (fun x42 e43 => ?_)
    have z44 := any_r a1
    have z45 := any_r a2
    exact ur_ret rfl rfl (hQ _ ⟨_, rfl, fun q => by rw [show a0.toInt = 42 by omega, (twk_e (a := 42) (by decide)).2]; exact twk_l (Or.inl ⟨rfl, e43⟩)⟩ )
  · refine ur_tabI rfl (by omega) (by rw [t1]; rfl) ?_
    refine ur_ldI rfl rfl ?_
    refine ur_ldI rfl rfl ?_
    refine ur_binV rfl (fun x46 e47 => ?_)
    have z48 := any_r a1
    have z49 := any_r a2
    exact ur_ret rfl rfl (hQ _ ⟨_, rfl, fun q => by rw [show a0.toInt = 43 by omega, (twk_e (a := 43) (by decide)).2]; exact twk_l (Or.inr (Or.inl ⟨rfl, e47⟩))⟩ )
  · refine ur_tabI rfl (by omega) (by rw [t1]; rfl) ?_
    refine ur_ldI rfl rfl ?_
    refine ur_if1 rfl (fun c50 => ?_) (fun c50 => ?_)
    · have t51 := ne_to c50
      refine ur_push rfl ?_
      refine ur_go rfl ?_
      exact ur_ret rfl rfl (hQ _ ⟨_, rfl, fun q => by exfalso; omega⟩ )
    · have t52 := ne_no c50
      refine ur_ldI rfl rfl ?_
      refine ur_if1 rfl (fun c53 => ?_) (fun c53 => ?_)
      · have t54 := eq_to c53
        refine ur_push rfl ?_
        exact ur_ret rfl rfl (hQ _ ⟨_, rfl, fun q => by exfalso; omega⟩ )
      · have t55 := eq_no c53
        refine ur_push rfl ?_
        refine ur_go rfl ?_
        exact ur_ret rfl rfl (hQ _ ⟨_, rfl, fun q => by exfalso; omega⟩ )
  · refine ur_tabI rfl (by omega) (by rw [t1]; rfl) ?_
    refine ur_ldI rfl rfl ?_
    refine ur_ldI rfl rfl ?_
    refine ur_binV rfl (fun x56 e57 => ?_)
    have z58 := any_r a1
    have z59 := any_r a2
    exact ur_ret rfl rfl (hQ _ ⟨_, rfl, fun q => by rw [show a0.toInt = 45 by omega, (twk_e (a := 45) (by decide)).2]; exact twk_l (Or.inr (Or.inr ⟨rfl, e57⟩))⟩ )
  · refine ur_tabI rfl (by omega) (by rw [t1]; rfl) ?_
    refine ur_ldI rfl rfl ?_
    refine ur_if1 rfl (fun c60 => ?_) (fun c60 => ?_)
    · have t61 := ne_to c60
      refine ur_push rfl ?_
      refine ur_go rfl ?_
      exact ur_ret rfl rfl (hQ _ ⟨_, rfl, fun q => by exfalso; omega⟩ )
    · have t62 := ne_no c60
      refine ur_ldI rfl rfl ?_
      refine ur_if1 rfl (fun c63 => ?_) (fun c63 => ?_)
      · have t64 := eq_to c63
        refine ur_push rfl ?_
        exact ur_ret rfl rfl (hQ _ ⟨_, rfl, fun q => by exfalso; omega⟩ )
      · have t65 := eq_no c63
        refine ur_push rfl ?_
        refine ur_go rfl ?_
        exact ur_ret rfl rfl (hQ _ ⟨_, rfl, fun q => by exfalso; omega⟩ )
  · refine ur_tabI rfl (by omega) (by rw [t1]; rfl) ?_
    refine ur_ldI rfl rfl ?_
    refine ur_if1 rfl (fun c66 => ?_) (fun c66 => ?_)
    · have t67 := ne_to c66
      refine ur_ldI rfl rfl ?_
      refine ur_push rfl ?_
      refine ur_if2 rfl (fun c68 => ?_) (fun c68 => ?_)
      · have t69 := ne_to c68
        refine ur_ldI rfl rfl ?_
        refine ur_ldI rfl rfl ?_
        refine ur_divV rfl (of_decide_eq_true c66) (fun x70 e71 => ?_)
        have z72 := any_r a1
        have z73 := any_r a2
        exact ur_ret rfl rfl (hQ _ ⟨_, rfl, fun q => by rw [show a0.toInt = 47 by omega, (twk_e (a := 47) (by decide)).2]; exact twk_d (by omega) (Or.inl ⟨rfl, e71⟩)⟩ )
      · have t74 := ne_no c68
        refine ur_ldI rfl rfl ?_
        refine ur_unV rfl (fun x75 e76 => ?_)
        have z77 := any_r a1
        refine ur_go rfl ?_
        exact ur_ret rfl rfl (hQ _ ⟨_, rfl, fun q => by rw [show a0.toInt = 47 by omega, (twk_e (a := 47) (by decide)).2]; exact twk_m (by omega) (Or.inl ⟨rfl, e76⟩)⟩ )
    · have t78 := ne_no c66
      refine ur_push rfl ?_
      refine ur_go rfl ?_
      exact ur_ret rfl rfl (hQ _ ⟨_, rfl, fun q => by rw [show a0.toInt = 47 by omega, (twk_e (a := 47) (by decide)).2]; exact twk_d0 (Or.inl rfl) (by omega)⟩ )
  · refine ur_tabI rfl (by omega) (by rw [t1]; rfl) ?_
    refine ur_ldI rfl rfl ?_
    refine ur_if1 rfl (fun c79 => ?_) (fun c79 => ?_)
    · have t80 := ne_to c79
      refine ur_push rfl ?_
      refine ur_go rfl ?_
      exact ur_ret rfl rfl (hQ _ ⟨_, rfl, fun q => by exfalso; omega⟩ )
    · have t81 := ne_no c79
      refine ur_ldI rfl rfl ?_
      refine ur_if1 rfl (fun c82 => ?_) (fun c82 => ?_)
      · have t83 := eq_to c82
        refine ur_push rfl ?_
        exact ur_ret rfl rfl (hQ _ ⟨_, rfl, fun q => by exfalso; omega⟩ )
      · have t84 := eq_no c82
        refine ur_push rfl ?_
        refine ur_go rfl ?_
        exact ur_ret rfl rfl (hQ _ ⟨_, rfl, fun q => by exfalso; omega⟩ )
  · refine ur_tabI rfl (by omega) (by rw [t1]; rfl) ?_
    refine ur_ldI rfl rfl ?_
    refine ur_if1 rfl (fun c85 => ?_) (fun c85 => ?_)
    · have t86 := ne_to c85
      refine ur_push rfl ?_
      refine ur_go rfl ?_
      exact ur_ret rfl rfl (hQ _ ⟨_, rfl, fun q => by exfalso; omega⟩ )
    · have t87 := ne_no c85
      refine ur_ldI rfl rfl ?_
      refine ur_if1 rfl (fun c88 => ?_) (fun c88 => ?_)
      · have t89 := eq_to c88
        refine ur_push rfl ?_
        exact ur_ret rfl rfl (hQ _ ⟨_, rfl, fun q => by exfalso; omega⟩ )
      · have t90 := eq_no c88
        refine ur_push rfl ?_
        refine ur_go rfl ?_
        exact ur_ret rfl rfl (hQ _ ⟨_, rfl, fun q => by exfalso; omega⟩ )
  · refine ur_tabI rfl (by omega) (by rw [t1]; rfl) ?_
    refine ur_ldI rfl rfl ?_
    refine ur_if1 rfl (fun c91 => ?_) (fun c91 => ?_)
    · have t92 := ne_to c91
      refine ur_push rfl ?_
      refine ur_go rfl ?_
      exact ur_ret rfl rfl (hQ _ ⟨_, rfl, fun q => by exfalso; omega⟩ )
    · have t93 := ne_no c91
      refine ur_ldI rfl rfl ?_
      refine ur_if1 rfl (fun c94 => ?_) (fun c94 => ?_)
      · have t95 := eq_to c94
        refine ur_push rfl ?_
        exact ur_ret rfl rfl (hQ _ ⟨_, rfl, fun q => by exfalso; omega⟩ )
      · have t96 := eq_no c94
        refine ur_push rfl ?_
        refine ur_go rfl ?_
        exact ur_ret rfl rfl (hQ _ ⟨_, rfl, fun q => by exfalso; omega⟩ )
  · refine ur_tabI rfl (by omega) (by rw [t1]; rfl) ?_
    refine ur_ldI rfl rfl ?_
    refine ur_if1 rfl (fun c97 => ?_) (fun c97 => ?_)
    · have t98 := ne_to c97
      refine ur_push rfl ?_
      refine ur_go rfl ?_
      exact ur_ret rfl rfl (hQ _ ⟨_, rfl, fun q => by exfalso; omega⟩ )
    · have t99 := ne_no c97
      refine ur_ldI rfl rfl ?_
      refine ur_if1 rfl (fun c100 => ?_) (fun c100 => ?_)
      · have t101 := eq_to c100
        refine ur_push rfl ?_
        exact ur_ret rfl rfl (hQ _ ⟨_, rfl, fun q => by exfalso; omega⟩ )
      · have t102 := eq_no c100
        refine ur_push rfl ?_
        refine ur_go rfl ?_
        exact ur_ret rfl rfl (hQ _ ⟨_, rfl, fun q => by exfalso; omega⟩ )
  · refine ur_tabI rfl (by omega) (by rw [t1]; rfl) ?_
    refine ur_ldI rfl rfl ?_
    refine ur_if1 rfl (fun c103 => ?_) (fun c103 => ?_)
    · have t104 := ne_to c103
      refine ur_push rfl ?_
      refine ur_go rfl ?_
      exact ur_ret rfl rfl (hQ _ ⟨_, rfl, fun q => by exfalso; omega⟩ )
    · have t105 := ne_no c103
      refine ur_ldI rfl rfl ?_
      refine ur_if1 rfl (fun c106 => ?_) (fun c106 => ?_)
      · have t107 := eq_to c106
        refine ur_push rfl ?_
        exact ur_ret rfl rfl (hQ _ ⟨_, rfl, fun q => by exfalso; omega⟩ )
      · have t108 := eq_no c106
        refine ur_push rfl ?_
        refine ur_go rfl ?_
        exact ur_ret rfl rfl (hQ _ ⟨_, rfl, fun q => by exfalso; omega⟩ )
  · refine ur_tabI rfl (by omega) (by rw [t1]; rfl) ?_
    refine ur_ldI rfl rfl ?_
    refine ur_if1 rfl (fun c109 => ?_) (fun c109 => ?_)
    · have t110 := ne_to c109
      refine ur_push rfl ?_
      refine ur_go rfl ?_
      exact ur_ret rfl rfl (hQ _ ⟨_, rfl, fun q => by exfalso; omega⟩ )
    · have t111 := ne_no c109
      refine ur_ldI rfl rfl ?_
      refine ur_if1 rfl (fun c112 => ?_) (fun c112 => ?_)
      · have t113 := eq_to c112
        refine ur_push rfl ?_
        exact ur_ret rfl rfl (hQ _ ⟨_, rfl, fun q => by exfalso; omega⟩ )
      · have t114 := eq_no c112
        refine ur_push rfl ?_
        refine ur_go rfl ?_
        exact ur_ret rfl rfl (hQ _ ⟨_, rfl, fun q => by exfalso; omega⟩ )
  · refine ur_tabI rfl (by omega) (by rw [t1]; rfl) ?_
    refine ur_ldI rfl rfl ?_
    refine ur_if1 rfl (fun c115 => ?_) (fun c115 => ?_)
    · have t116 := ne_to c115
      refine ur_push rfl ?_
      refine ur_go rfl ?_
      exact ur_ret rfl rfl (hQ _ ⟨_, rfl, fun q => by exfalso; omega⟩ )
    · have t117 := ne_no c115
      refine ur_ldI rfl rfl ?_
      refine ur_if1 rfl (fun c118 => ?_) (fun c118 => ?_)
      · have t119 := eq_to c118
        refine ur_push rfl ?_
        exact ur_ret rfl rfl (hQ _ ⟨_, rfl, fun q => by exfalso; omega⟩ )
      · have t120 := eq_no c118
        refine ur_push rfl ?_
        refine ur_go rfl ?_
        exact ur_ret rfl rfl (hQ _ ⟨_, rfl, fun q => by exfalso; omega⟩ )
  · refine ur_tabI rfl (by omega) (by rw [t1]; rfl) ?_
    refine ur_ldI rfl rfl ?_
    refine ur_if1 rfl (fun c121 => ?_) (fun c121 => ?_)
    · have t122 := ne_to c121
      refine ur_push rfl ?_
      refine ur_go rfl ?_
      exact ur_ret rfl rfl (hQ _ ⟨_, rfl, fun q => by exfalso; omega⟩ )
    · have t123 := ne_no c121
      refine ur_ldI rfl rfl ?_
      refine ur_if1 rfl (fun c124 => ?_) (fun c124 => ?_)
      · have t125 := eq_to c124
        refine ur_push rfl ?_
        exact ur_ret rfl rfl (hQ _ ⟨_, rfl, fun q => by exfalso; omega⟩ )
      · have t126 := eq_no c124
        refine ur_push rfl ?_
        refine ur_go rfl ?_
        exact ur_ret rfl rfl (hQ _ ⟨_, rfl, fun q => by exfalso; omega⟩ )
  · refine ur_tabI rfl (by omega) (by rw [t1]; rfl) ?_
    refine ur_ldI rfl rfl ?_
    refine ur_if1 rfl (fun c127 => ?_) (fun c127 => ?_)
    · have t128 := ne_to c127
      refine ur_push rfl ?_
      refine ur_go rfl ?_
      exact ur_ret rfl rfl (hQ _ ⟨_, rfl, fun q => by exfalso; omega⟩ )
    · have t129 := ne_no c127
      refine ur_ldI rfl rfl ?_
      refine ur_if1 rfl (fun c130 => ?_) (fun c130 => ?_)
      · have t131 := eq_to c130
        refine ur_push rfl ?_
        exact ur_ret rfl rfl (hQ _ ⟨_, rfl, fun q => by exfalso; omega⟩ )
      · have t132 := eq_no c130
        refine ur_push rfl ?_
        refine ur_go rfl ?_
        exact ur_ret rfl rfl (hQ _ ⟨_, rfl, fun q => by exfalso; omega⟩ )
  · refine ur_tabI rfl (by omega) (by rw [t1]; rfl) ?_
    refine ur_ldI rfl rfl ?_
    refine ur_if1 rfl (fun c133 => ?_) (fun c133 => ?_)
    · have t134 := ne_to c133
      refine ur_push rfl ?_
      refine ur_go rfl ?_
      exact ur_ret rfl rfl (hQ _ ⟨_, rfl, fun q => by exfalso; omega⟩ )
    · have t135 := ne_no c133
      refine ur_ldI rfl rfl ?_
      refine ur_if1 rfl (fun c136 => ?_) (fun c136 => ?_)
      · have t137 := eq_to c136
        refine ur_push rfl ?_
        exact ur_ret rfl rfl (hQ _ ⟨_, rfl, fun q => by exfalso; omega⟩ )
      · have t138 := eq_no c136
        refine ur_push rfl ?_
        refine ur_go rfl ?_
        exact ur_ret rfl rfl (hQ _ ⟨_, rfl, fun q => by exfalso; omega⟩ )
  · refine ur_tabI rfl (by omega) (by rw [t1]; rfl) ?_
    refine ur_ldI rfl rfl ?_
    refine ur_if1 rfl (fun c139 => ?_) (fun c139 => ?_)
    · have t140 := ne_to c139
      refine ur_push rfl ?_
      refine ur_go rfl ?_
      exact ur_ret rfl rfl (hQ _ ⟨_, rfl, fun q => by exfalso; omega⟩ )
    · have t141 := ne_no c139
      refine ur_ldI rfl rfl ?_
      refine ur_if1 rfl (fun c142 => ?_) (fun c142 => ?_)
      · have t143 := eq_to c142
        refine ur_push rfl ?_
        exact ur_ret rfl rfl (hQ _ ⟨_, rfl, fun q => by exfalso; omega⟩ )
      · have t144 := eq_no c142
        refine ur_push rfl ?_
        refine ur_go rfl ?_
        exact ur_ret rfl rfl (hQ _ ⟨_, rfl, fun q => by exfalso; omega⟩ )
  · refine ur_tabI rfl (by omega) (by rw [t1]; rfl) ?_
    refine ur_ldI rfl rfl ?_
    refine ur_if1 rfl (fun c145 => ?_) (fun c145 => ?_)
    · have t146 := ne_to c145
      refine ur_push rfl ?_
      refine ur_go rfl ?_
      exact ur_ret rfl rfl (hQ _ ⟨_, rfl, fun q => by exfalso; omega⟩ )
    · have t147 := ne_no c145
      refine ur_ldI rfl rfl ?_
      refine ur_if1 rfl (fun c148 => ?_) (fun c148 => ?_)
      · have t149 := eq_to c148
        refine ur_push rfl ?_
        exact ur_ret rfl rfl (hQ _ ⟨_, rfl, fun q => by exfalso; omega⟩ )
      · have t150 := eq_no c148
        refine ur_push rfl ?_
        refine ur_go rfl ?_
        exact ur_ret rfl rfl (hQ _ ⟨_, rfl, fun q => by exfalso; omega⟩ )
  · refine ur_tabI rfl (by omega) (by rw [t1]; rfl) ?_
    refine ur_ldI rfl rfl ?_
    refine ur_ldI rfl rfl ?_
    have z151 := any_r a1
    have z152 := any_r a2
    refine ur_if2 rfl (fun c153 => ?_) (fun c153 => ?_)
    · have t154 := le_to c153
      refine ur_push rfl ?_
      exact ur_ret rfl rfl (hQ _ ⟨_, rfl, fun q => by rw [show a0.toInt = 60 by omega, (twk_e (a := 60) (by decide)).2]; exact (twk_c.1 rfl).2 (by omega)⟩ )
    · have t155 := le_no c153
      refine ur_push rfl ?_
      refine ur_go rfl ?_
      exact ur_ret rfl rfl (hQ _ ⟨_, rfl, fun q => by rw [show a0.toInt = 60 by omega, (twk_e (a := 60) (by decide)).2]; exact (twk_c.1 rfl).1 (by omega)⟩ )
  · refine ur_tabI rfl (by omega) (by rw [t1]; rfl) ?_
    refine ur_ldI rfl rfl ?_
    refine ur_ldI rfl rfl ?_
    have z156 := any_r a1
    have z157 := any_r a2
    refine ur_if2 rfl (fun c158 => ?_) (fun c158 => ?_)
    · have t159 := ne_to c158
      refine ur_push rfl ?_
      exact ur_ret rfl rfl (hQ _ ⟨_, rfl, fun q => by rw [show a0.toInt = 61 by omega, (twk_e (a := 61) (by decide)).2]; exact (twk_c.2.1 rfl).2 (by omega)⟩ )
    · have t160 := ne_no c158
      refine ur_push rfl ?_
      refine ur_go rfl ?_
      exact ur_ret rfl rfl (hQ _ ⟨_, rfl, fun q => by rw [show a0.toInt = 61 by omega, (twk_e (a := 61) (by decide)).2]; exact (twk_c.2.1 rfl).1 (by omega)⟩ )
  · refine ur_tabI rfl (by omega) (by rw [t1]; rfl) ?_
    refine ur_ldI rfl rfl ?_
    refine ur_ldI rfl rfl ?_
    have z161 := any_r a1
    have z162 := any_r a2
    refine ur_if2 rfl (fun c163 => ?_) (fun c163 => ?_)
    · have t164 := le_to c163
      refine ur_push rfl ?_
      exact ur_ret rfl rfl (hQ _ ⟨_, rfl, fun q => by rw [show a0.toInt = 62 by omega, (twk_e (a := 62) (by decide)).2]; exact (twk_c.2.2 rfl).2 (by omega)⟩ )
    · have t165 := le_no c163
      refine ur_push rfl ?_
      refine ur_go rfl ?_
      exact ur_ret rfl rfl (hQ _ ⟨_, rfl, fun q => by rw [show a0.toInt = 62 by omega, (twk_e (a := 62) (by decide)).2]; exact (twk_c.2.2 rfl).1 (by omega)⟩ )

set_option maxRecDepth 20000 in
set_option maxHeartbeats 4000000 in
theorem st_X12_worked {d kc ks : Nat} {h0 : aH} {Q : Option aV → aH → Prop} {e : List (Int × Int)} (hO0 : OK h0) (a1 : Int32) (b1 : 0 ≤ a1.toInt ∧ a1.toInt ≤ 10) (a2 : Int32) (b2 : 0 ≤ a2.toInt ∧ a2.toInt ≤ 130) (a3 : Int32) (b3 : 0 ≤ a3.toInt ∧ a3.toInt ≤ 130) (pre0 : a2.toInt ≤ a3.toInt) (pre1 : txs h0 (iN a1) (iN a2) (iN a3)) (pre2 : sgp h0 (130 * iN a1 + iN a2) (130 * iN a1 + iN a3) = e) (pre3 : blE 36 e) (hQ : ∀ r h', (∃ x : Int32, r = some (.inl x) ∧ (x = tvv (nuM h0) e)) → OK h' → un [] h0 h' → (arI h' 88 = arI h0 88) → (h'[69]? = h0[69]?) → Q r h') : uCall Mt (d + 2) 229 [(.inr (.inr (some 69))), (.inl a1), (.inl a2), (.inl a3)] h0 kc ks Q := by
  have l_m1 : ((-1) : Int32).toInt = -1 := by decide
  have l_0 : ((0) : Int32).toInt = 0 := by decide
  have l_1 : ((1) : Int32).toInt = 1 := by decide
  have l_2 : ((2) : Int32).toInt = 2 := by decide
  have l_3 : ((3) : Int32).toInt = 3 := by decide
  have l_4 : ((4) : Int32).toInt = 4 := by decide
  have l_130 : ((130) : Int32).toInt = 130 := by decide
  refine uc_ink [some (.inr (.inr (some 69))), some (.inl a1), some (.inl a2), some (.inl a3), none, none, none] mt_229 (Nat.le_of_ble_eq_true rfl) rfl ?_
  refine ur_push rfl ?_
  refine ur_svIk [some (.inr (.inr (some 69))), some (.inl a1), some (.inl a2), some (.inl a3), some (.inl 0), none, none] rfl rfl ?_
  refine ur_push rfl ?_
  refine ur_ldI rfl rfl ?_
  refine ur_binV rfl (fun x1 e2 => ?_)
  have z3 := any_r a1
  have t4 := ti_mulR e2 l_130 (by omega) (by omega)
  refine ur_ldI rfl rfl ?_
  refine ur_binV rfl (fun x5 e6 => ?_)
  have z7 := any_r x1
  have z8 := any_r a2
  have t9 := ti_add e6 (by omega) (by omega)
  refine ur_svIk [some (.inr (.inr (some 69))), some (.inl a1), some (.inl a2), some (.inl a3), some (.inl 0), some (.inl x5), none] rfl rfl ?_
  have L13 : ∀ (m14 : Nat) (x10 : Int32) (x11 : Int32) (u12 : Option aV) (h16 : aH) , OK h16 → un [] h0 h16 → ((0 ≤ x10.toInt ∧ x10.toInt ≤ 130) ∧ (0 ≤ x11.toInt ∧ x11.toInt ≤ 1559) ∧ x10.toInt + 130 * a1.toInt + a2.toInt ≤ x11.toInt) → (txr h0 (iN x11) (130 * iN a1 + iN a3) (iN x10)) → (WS e (nuM h0) (tvv (nuM h0) e) (arI h16 89) x10.toInt (x11.toInt - (((130 * iN a1 + iN a2 : Nat) : Int) : Int))) → (arI h16 88 = arI h0 88) → (h16[69]? = h0[69]?) → ((1560 - x11.toInt).toNat) < m14 → uRun oX12_worked (uCall Mt (d + 1)) Q 12 ([some (.inr (.inr (some 69))), some (.inl a1), some (.inl a2), some (.inl a3), some (.inl x10), some (.inl x11), u12], [], h16, kc, ks) := by
    intro m14
    induction m14 with
    | zero => intro x10 x11 u12 h16 hO16 hu16 iv21 px17 px18 px19 px20 mm22; omega
    | succ m14 ih15 =>
      intro x10 x11 u12 h16 hO16 hu16 iv21 px17 px18 px19 px20 mm22
      obtain ⟨xs24, hc23, hn25, he26⟩ := hO16.int (hO16.fix 89 (by decide) rfl)
      obtain ⟨xs28, hc27, hn29, he30⟩ := hO16.byt (hO16.fix 83 (by decide) rfl)
      obtain ⟨xs32, hc31, hn33, he34⟩ := hO16.int (hO16.fix 84 (by decide) rfl)
      refine ur_ldI rfl rfl ?_
      refine ur_push rfl ?_
      refine ur_ldI rfl rfl ?_
      refine ur_binV rfl (fun x35 e36 => ?_)
      have t37 := ti_mulR e36 l_130 (by omega) (by omega)
      refine ur_ldI rfl rfl ?_
      refine ur_binV rfl (fun x38 e39 => ?_)
      have z40 := any_r x35
      have z41 := any_r a3
      have t42 := ti_add e39 (by omega) (by omega)
      have z43 := any_r x11
      have z44 := any_r x38
      refine ur_if2 rfl (fun c45 => ?_) (fun c45 => ?_)
      · have t46 := le_to c45
        refine ur_ldA rfl rfl ?_
        obtain ⟨fs47, hc48⟩ := hO16.mod
        refine ur_get rfl hc48 (mf_30 hO16 hc48) ?_
        refine ur_push rfl ?_
        refine ur_aldV rfl hc23 hn25 (by omega) (fun x49 hx50 => ?_)
        exact ur_ret rfl rfl (hQ _ _ ⟨_, rfl, px18.e (by rw [sgp_len hO0 pre2 (by unfold iN; omega)]; unfold iN; omega) (arL_at hc23 hx50)⟩ hO16 hu16 px19 px20)
      · have t51 := le_no c45
        refine ur_ldA rfl rfl ?_
        obtain ⟨fs52, hc53⟩ := hO16.mod
        refine ur_get rfl hc53 (mf_24 hO16 hc53) ?_
        refine ur_ldI rfl rfl ?_
        refine ur_aldV rfl hc27 hn29 (by omega) (fun x54 hx55 => ?_)
        have t56 : 0 ≤ x54.toInt ∧ x54.toInt ≤ 124 := he30 _ _ hx55
        obtain ⟨S57, S58, S59, S60, S61, S62, S63⟩ := wk_step (k := x11) (n := x10) hO0 hu16 (by decide) (by decide) hc27 hc31 hn33 hx55 (by omega) px17 (by unfold iN; omega)
        unfold iN at S62 S63
        obtain ⟨x64, hx65⟩ := gEx (j := x11.toInt.toNat) hn33 (by omega)
        have hE66 := sgp_at (i := (x11.toInt - (((130 * iN a1 + iN a2 : Nat) : Int) : Int))) pre2 (arI_keep (a := 83) hO0 hu16 (by decide) rfl (by decide) rfl (by decide) (by decide)) (arI_keep (a := 84) hO0 hu16 (by decide) rfl (by decide) rfl (by decide) (by decide)) hc27 hc31 hx55 hx65 (by unfold iN; omega) (by unfold iN; omega)
        have z67 := any_r x64
        have t68 := px18.lt hE66
        refine ur_svIk [some (.inr (.inr (some 69))), some (.inl a1), some (.inl a2), some (.inl a3), some (.inl x10), some (.inl x11), some (.inl x54)] rfl rfl ?_
        refine ur_ldI rfl rfl ?_
        refine ur_push rfl ?_
        refine ur_if2 rfl (fun c69 => ?_) (fun c69 => ?_)
        · have t70 := eq_to c69
          have t71 := t68.1 (by omega)
          refine ur_ldA rfl rfl ?_
          refine ur_get rfl hc53 (mf_30 hO16 hc53) ?_
          refine ur_ldI rfl rfl ?_
          refine ur_ldI rfl rfl ?_
          refine ur_push rfl ?_
          refine ur_if2 rfl (fun c72 => ?_) (fun c72 => ?_)
          · have t73 := ne_to c72
            exfalso
            omega
          · have t74 := ne_no c72
            refine ur_ldA rfl rfl ?_
            refine ur_get rfl hc53 (mf_25 hO16 hc53) ?_
            refine ur_ldI rfl rfl ?_
            refine ur_aldV rfl hc31 hn33 (by omega) (fun x75 hx76 => ?_)
            obtain rfl : x64 = x75 := Option.some.inj (hx65.symm.trans hx76)
            refine ur_go rfl ?_
            refine ur_astV (W := []) (m := 130) rfl hO16 hc23 (by decide) hn25 (by omega) (any_r _) (Or.inl rfl) (fun h79 hO79 hu79 d77 hc78 => ?_)
            have w80 : wI h16 h79 89 ((arI h16 89).set (x10 : Int32).toInt.toNat x64) := ⟨by rw [arI_of hc78, arI_of hc23], d77⟩
            refine ur_incV (fun z => [some (.inr (.inr (some 69))), some (.inl a1), some (.inl a2), some (.inl a3), some (.inl z), some (.inl x11), some (.inl x54)]) rfl rfl (fun _ => rfl) (fun x81 e82 => ?_)
            have z83 := any_r x10
            have t84 := ti_add e82 (by omega) (by omega)
            refine ur_go rfl ?_
            refine ur_incV (fun z => [some (.inr (.inr (some 69))), some (.inl a1), some (.inl a2), some (.inl a3), some (.inl x81), some (.inl z), some (.inl x54)]) rfl rfl (fun _ => rfl) (fun x85 e86 => ?_)
            have t87 := ti_add e86 (by omega) (by omega)
            refine ur_go rfl ?_
            have z88 := any_r x81
            have z89 := any_r x85
            exact ih15 x81 x85 _ _ hO79 (hu16.tr hu79) (by omega) (by first | exact S57 (by omega) _ _ (by unfold iN; omega) (by unfold iN; omega) | exact S58 (by omega) _ _ (by unfold iN; omega) (by unfold iN; omega) | exact S59 (by omega) _ _ (by unfold iN; omega) (by unfold iN; omega) | exact S60 (by omega) _ _ (by unfold iN; omega) (by unfold iN; omega)) (px18.k12 (i' := (x85.toInt - (((130 * iN a1 + iN a2 : Nat) : Int) : Int))) hE66 (Or.inl ⟨by omega, rfl⟩) (ln_of hc23 hn25) w80.1 (by omega) (by omega) (by omega)) ((w80.oI (by decide)).trans px19) ((w80.2 69 (by decide)).trans px20) (by omega)
        · have t90 := eq_no c69
          refine ur_ldI rfl rfl ?_
          refine ur_push rfl ?_
          refine ur_if2 rfl (fun c91 => ?_) (fun c91 => ?_)
          · have t92 := ne_to c91
            have t93 := t68.2.1 (by omega)
            refine ur_ldI rfl rfl ?_
            refine ur_push rfl ?_
            refine ur_if2 rfl (fun c94 => ?_) (fun c94 => ?_)
            · have t95 := ne_to c94
              refine ur_ldI rfl rfl ?_
              refine ur_push rfl ?_
              refine ur_if2 rfl (fun c96 => ?_) (fun c96 => ?_)
              · have t97 := ne_to c96
                have t98 := t68.2.2 (by omega)
                refine ur_incV (fun z => [some (.inr (.inr (some 69))), some (.inl a1), some (.inl a2), some (.inl a3), some (.inl z), some (.inl x11), some (.inl x54)]) rfl rfl (fun _ => rfl) (fun x99 e100 => ?_)
                have z101 := any_r x10
                have t102 := ti_add e100 (by omega) (by omega)
                refine ur_ldA rfl rfl ?_
                refine ur_get rfl hc53 (mf_30 hO16 hc53) ?_
                refine ur_ldI rfl rfl ?_
                refine ur_push rfl ?_
                refine ur_binV rfl (fun x103 e104 => ?_)
                have z105 := any_r x99
                have t106 := ti_sub e104 (by omega) (by omega)
                refine ur_ldI rfl rfl ?_
                refine ur_ldA rfl rfl ?_
                refine ur_get rfl hc53 (mf_30 hO16 hc53) ?_
                refine ur_ldI rfl rfl ?_
                refine ur_push rfl ?_
                refine ur_binV rfl (fun x107 e108 => ?_)
                have t109 := ti_sub e108 (by omega) (by omega)
                refine ur_aldV rfl hc23 hn25 (by omega) (fun x110 hx111 => ?_)
                refine ur_ldA rfl rfl ?_
                refine ur_get rfl hc53 (mf_30 hO16 hc53) ?_
                refine ur_ldI rfl rfl ?_
                refine ur_aldV rfl hc23 hn25 (by omega) (fun x112 hx113 => ?_)
                refine ur_inl rfl rfl (Nat.le_of_ble_eq_true rfl) (Nat.le_of_ble_eq_true rfl) (st_X12_twoOf hO16 _ _ _ (fun w114 hr115 => ?_))
                obtain ⟨x116, rfl, f117⟩ := hr115
                show uRun _ (uCall Mt _) _ 181 (_, [(.inl x116), (.inl x103), (.inr (.inr (some 89)))], _, _, _)
                refine ur_astV (W := []) (m := 130) rfl hO16 hc23 (by decide) hn25 (by omega) (any_r _) (Or.inl rfl) (fun h120 hO120 hu120 d118 hc119 => ?_)
                have w121 : wI h16 h120 89 ((arI h16 89).set (x103 : Int32).toInt.toNat x116) := ⟨by rw [arI_of hc119, arI_of hc23], d118⟩
                refine ur_incV (fun z => [some (.inr (.inr (some 69))), some (.inl a1), some (.inl a2), some (.inl a3), some (.inl x99), some (.inl z), some (.inl x54)]) rfl rfl (fun _ => rfl) (fun x122 e123 => ?_)
                have t124 := ti_add e123 (by omega) (by omega)
                refine ur_go rfl ?_
                have z125 := any_r x122
                exact ih15 x99 x122 _ _ hO120 (hu16.tr hu120) (by omega) (by first | exact S57 (by omega) _ _ (by unfold iN; omega) (by unfold iN; omega) | exact S58 (by omega) _ _ (by unfold iN; omega) (by unfold iN; omega) | exact S59 (by omega) _ _ (by unfold iN; omega) (by unfold iN; omega) | exact S60 (by omega) _ _ (by unfold iN; omega) (by unfold iN; omega)) (px18.kb (i' := (x122.toInt - (((130 * iN a1 + iN a2 : Nat) : Int) : Int))) hE66 (by omega) (arL_at hc23 hx111) (arL_at hc23 hx113) (f117 (by omega)) (ln_of hc23 hn25) (set_ix w121.1 (by omega)) (by omega) (by omega) (by omega)) ((w121.oI (by decide)).trans px19) ((w121.2 69 (by decide)).trans px20) (by omega)
              · have t126 := ne_no c96
                refine ur_ldA rfl rfl ?_
                refine ur_get rfl hc53 (mf_30 hO16 hc53) ?_
                refine ur_ldI rfl rfl ?_
                refine ur_push rfl ?_
                refine ur_binV rfl (fun x127 e128 => ?_)
                have z129 := any_r x10
                have t130 := ti_sub e128 (by omega) (by omega)
                refine ur_ldA rfl rfl ?_
                refine ur_get rfl hc53 (mf_30 hO16 hc53) ?_
                refine ur_ldI rfl rfl ?_
                refine ur_push rfl ?_
                refine ur_binV rfl (fun x131 e132 => ?_)
                have t133 := ti_sub e132 (by omega) (by omega)
                refine ur_aldV rfl hc23 hn25 (by omega) (fun x134 hx135 => ?_)
                refine ur_unV rfl (fun x136 e137 => ?_)
                have z138 := any_r x134
                refine ur_astV (W := []) (m := 130) rfl hO16 hc23 (by decide) hn25 (by omega) (any_r _) (Or.inl rfl) (fun h141 hO141 hu141 d139 hc140 => ?_)
                have w142 : wI h16 h141 89 ((arI h16 89).set (x127 : Int32).toInt.toNat x136) := ⟨by rw [arI_of hc140, arI_of hc23], d139⟩
                refine ur_go rfl ?_
                refine ur_incV (fun z => [some (.inr (.inr (some 69))), some (.inl a1), some (.inl a2), some (.inl a3), some (.inl x10), some (.inl z), some (.inl x54)]) rfl rfl (fun _ => rfl) (fun x143 e144 => ?_)
                have t145 := ti_add e144 (by omega) (by omega)
                refine ur_go rfl ?_
                have z146 := any_r x143
                exact ih15 x10 x143 _ _ hO141 (hu16.tr hu141) (by omega) (by first | exact S57 (by omega) _ _ (by unfold iN; omega) (by unfold iN; omega) | exact S58 (by omega) _ _ (by unfold iN; omega) (by unfold iN; omega) | exact S59 (by omega) _ _ (by unfold iN; omega) (by unfold iN; omega) | exact S60 (by omega) _ _ (by unfold iN; omega) (by unfold iN; omega)) (px18.k34 (i' := (x143.toInt - (((130 * iN a1 + iN a2 : Nat) : Int) : Int))) hE66 (arL_at hc23 hx135) (Or.inr ⟨by omega, e137.symm⟩) (ln_of hc23 hn25) (set_ix w142.1 (by omega)) (by omega) (by omega) (by omega)) ((w142.oI (by decide)).trans px19) ((w142.2 69 (by decide)).trans px20) (by omega)
            · have t147 := ne_no c94
              refine ur_ldA rfl rfl ?_
              refine ur_get rfl hc53 (mf_30 hO16 hc53) ?_
              refine ur_ldI rfl rfl ?_
              refine ur_push rfl ?_
              refine ur_binV rfl (fun x148 e149 => ?_)
              have z150 := any_r x10
              have t151 := ti_sub e149 (by omega) (by omega)
              refine ur_ldA rfl rfl ?_
              refine ur_get rfl hc53 (mf_30 hO16 hc53) ?_
              refine ur_ldI rfl rfl ?_
              refine ur_push rfl ?_
              refine ur_binV rfl (fun x152 e153 => ?_)
              have t154 := ti_sub e153 (by omega) (by omega)
              refine ur_aldV rfl hc23 hn25 (by omega) (fun x155 hx156 => ?_)
              refine ur_if1 rfl (fun c157 => ?_) (fun c157 => ?_)
              · have t158 := ne_to c157
                refine ur_push rfl ?_
                refine ur_astV (W := []) (m := 130) rfl hO16 hc23 (by decide) hn25 (by omega) (any_r _) (Or.inl rfl) (fun h161 hO161 hu161 d159 hc160 => ?_)
                have w162 : wI h16 h161 89 ((arI h16 89).set (x148 : Int32).toInt.toNat 0) := ⟨by rw [arI_of hc160, arI_of hc23], d159⟩
                refine ur_go rfl ?_
                refine ur_incV (fun z => [some (.inr (.inr (some 69))), some (.inl a1), some (.inl a2), some (.inl a3), some (.inl x10), some (.inl z), some (.inl x54)]) rfl rfl (fun _ => rfl) (fun x163 e164 => ?_)
                have t165 := ti_add e164 (by omega) (by omega)
                refine ur_go rfl ?_
                have z166 := any_r x163
                exact ih15 x10 x163 _ _ hO161 (hu16.tr hu161) (by omega) (by first | exact S57 (by omega) _ _ (by unfold iN; omega) (by unfold iN; omega) | exact S58 (by omega) _ _ (by unfold iN; omega) (by unfold iN; omega) | exact S59 (by omega) _ _ (by unfold iN; omega) (by unfold iN; omega) | exact S60 (by omega) _ _ (by unfold iN; omega) (by unfold iN; omega)) (px18.k34 (i' := (x163.toInt - (((130 * iN a1 + iN a2 : Nat) : Int) : Int))) hE66 (arL_at hc23 hx156) (Or.inl ⟨by omega, (if_neg (nz_of9 (by omega))).symm⟩) (ln_of hc23 hn25) (set_ix w162.1 (by omega)) (by omega) (by omega) (by omega)) ((w162.oI (by decide)).trans px19) ((w162.2 69 (by decide)).trans px20) (by omega)
              · have t167 := ne_no c157
                refine ur_push rfl ?_
                refine ur_go rfl ?_
                refine ur_astV (W := []) (m := 130) rfl hO16 hc23 (by decide) hn25 (by omega) (any_r _) (Or.inl rfl) (fun h170 hO170 hu170 d168 hc169 => ?_)
                have w171 : wI h16 h170 89 ((arI h16 89).set (x148 : Int32).toInt.toNat 1) := ⟨by rw [arI_of hc169, arI_of hc23], d168⟩
                refine ur_go rfl ?_
                refine ur_incV (fun z => [some (.inr (.inr (some 69))), some (.inl a1), some (.inl a2), some (.inl a3), some (.inl x10), some (.inl z), some (.inl x54)]) rfl rfl (fun _ => rfl) (fun x172 e173 => ?_)
                have t174 := ti_add e173 (by omega) (by omega)
                refine ur_go rfl ?_
                have z175 := any_r x172
                exact ih15 x10 x172 _ _ hO170 (hu16.tr hu170) (by omega) (by first | exact S57 (by omega) _ _ (by unfold iN; omega) (by unfold iN; omega) | exact S58 (by omega) _ _ (by unfold iN; omega) (by unfold iN; omega) | exact S59 (by omega) _ _ (by unfold iN; omega) (by unfold iN; omega) | exact S60 (by omega) _ _ (by unfold iN; omega) (by unfold iN; omega)) (px18.k34 (i' := (x172.toInt - (((130 * iN a1 + iN a2 : Nat) : Int) : Int))) hE66 (arL_at hc23 hx156) (Or.inl ⟨by omega, (if_pos (z_of (by omega))).symm⟩) (ln_of hc23 hn25) (set_ix w171.1 (by omega)) (by omega) (by omega) (by omega)) ((w171.oI (by decide)).trans px19) ((w171.2 69 (by decide)).trans px20) (by omega)
          · have t176 := ne_no c91
            have t177 := t68.1 (by omega)
            refine ur_ldA rfl rfl ?_
            refine ur_get rfl hc53 (mf_30 hO16 hc53) ?_
            refine ur_ldI rfl rfl ?_
            refine ur_ldI rfl rfl ?_
            refine ur_push rfl ?_
            refine ur_if2 rfl (fun c178 => ?_) (fun c178 => ?_)
            · have t179 := ne_to c178
              refine ur_ldA rfl rfl ?_
              refine ur_get rfl hc53 (mf_29 hO16 hc53) ?_
              refine ur_ldA rfl rfl ?_
              refine ur_get rfl hc53 (mf_25 hO16 hc53) ?_
              refine ur_ldI rfl rfl ?_
              refine ur_aldV rfl hc31 hn33 (by omega) (fun x180 hx181 => ?_)
              obtain rfl : x64 = x180 := Option.some.inj (hx65.symm.trans hx181)
              have t182 := S61 _ hx65 (by omega)
              obtain ⟨xs184, hc183, hn185, he186⟩ := hO16.int (hO16.fix 88 (by decide) rfl)
              refine ur_aldV rfl hc183 hn185 (by omega) (fun x187 hx188 => ?_)
              refine ur_astV (W := []) (m := 130) rfl hO16 hc23 (by decide) hn25 (by omega) (any_r _) (Or.inl rfl) (fun h191 hO191 hu191 d189 hc190 => ?_)
              have w192 : wI h16 h191 89 ((arI h16 89).set (x10 : Int32).toInt.toNat x187) := ⟨by rw [arI_of hc190, arI_of hc23], d189⟩
              refine ur_incV (fun z => [some (.inr (.inr (some 69))), some (.inl a1), some (.inl a2), some (.inl a3), some (.inl z), some (.inl x11), some (.inl x54)]) rfl rfl (fun _ => rfl) (fun x193 e194 => ?_)
              have z195 := any_r x10
              have t196 := ti_add e194 (by omega) (by omega)
              refine ur_go rfl ?_
              refine ur_incV (fun z => [some (.inr (.inr (some 69))), some (.inl a1), some (.inl a2), some (.inl a3), some (.inl x193), some (.inl z), some (.inl x54)]) rfl rfl (fun _ => rfl) (fun x197 e198 => ?_)
              have t199 := ti_add e198 (by omega) (by omega)
              refine ur_go rfl ?_
              have z200 := any_r x193
              have z201 := any_r x197
              exact ih15 x193 x197 _ _ hO191 (hu16.tr hu191) (by omega) (by first | exact S57 (by omega) _ _ (by unfold iN; omega) (by unfold iN; omega) | exact S58 (by omega) _ _ (by unfold iN; omega) (by unfold iN; omega) | exact S59 (by omega) _ _ (by unfold iN; omega) (by unfold iN; omega) | exact S60 (by omega) _ _ (by unfold iN; omega) (by unfold iN; omega)) (px18.k12 (i' := (x197.toInt - (((130 * iN a1 + iN a2 : Nat) : Int) : Int))) hE66 (Or.inr ⟨by omega, nuM_e hc183 hx188 px19 rfl⟩) (ln_of hc23 hn25) w192.1 (by omega) (by omega) (by omega)) ((w192.oI (by decide)).trans px19) ((w192.2 69 (by decide)).trans px20) (by omega)
            · have t202 := ne_no c178
              exfalso
              omega
  have z203 := any_r x5
  exact L13 _ 0 x5 (none) _ hO0 un.rf (by omega) (by rw [show iN x5 = 130 * iN a1 + iN a2 by unfold iN; omega]; exact pre1) (WS.z pre3 rfl (by omega) (by unfold iN; omega)) rfl rfl (Nat.lt_succ_self _)

set_option maxRecDepth 20000 in
set_option maxHeartbeats 4000000 in
theorem st_X12_gives {d kc ks : Nat} {h0 : aH} {Q : Option aV → aH → Prop} {ls : List (List (Int × Int) × List (Int × Int))} (hO0 : OK h0) (hX0 : SX h0) (a1 : Int32) (b1 : 0 ≤ a1.toInt ∧ a1.toInt ≤ 10) (pre0 : RLn h0 (iN a1) ls) (pre1 : ∀ l ∈ ls, lnG l) (hQ : ∀ r h', (∃ x : Int32, r = some (.inl x) ∧ (x = tvl (nuM h0) ls)) → OK h' → un [] h0 h' → (h'[69]? = h0[69]?) → Q r h') : uCall Mt (d + 3) 230 [(.inr (.inr (some 69))), (.inl a1)] h0 kc ks Q := by
  have l_0 : ((0) : Int32).toInt = 0 := by decide
  have l_1 : ((1) : Int32).toInt = 1 := by decide
  have l_61 : ((61) : Int32).toInt = 61 := by decide
  refine uc_ink [some (.inr (.inr (some 69))), some (.inl a1), none, none] mt_230 (Nat.le_of_ble_eq_true rfl) rfl ?_
  refine ur_push rfl ?_
  refine ur_svIk [some (.inr (.inr (some 69))), some (.inl a1), some (.inl 0), none] rfl rfl ?_
  refine ur_push rfl ?_
  refine ur_ldI rfl rfl ?_
  refine ur_binV rfl (fun x1 e2 => ?_)
  have z3 := any_r a1
  have t4 := ti_mulR e2 l_61 (by omega) (by omega)
  refine ur_svIk [some (.inr (.inr (some 69))), some (.inl a1), some (.inl 0), some (.inl x1)] rfl rfl ?_
  have L7 : ∀ (m8 : Nat) (x5 : Int32) (x6 : Int32) (h10 : aH) , OK h10 → un [] h0 h10 → ((0 ≤ x5.toInt ∧ x5.toInt ≤ 130) ∧ (0 ≤ x6.toInt ∧ x6.toInt ≤ 731) ∧ 61 * a1.toInt ≤ x6.toInt) → (iN x5 = frL h0 (iN a1) (iN x6 - 61 * iN a1)) → (GS ls (nuM h0) (tvl (nuM h0) ls) (x6.toInt - 61 * a1.toInt) x5.toInt) → (arI h10 88 = arI h0 88) → (h10[69]? = h0[69]?) → ((1000 - x6.toInt).toNat) < m8 → uRun oX12_gives (uCall Mt (d + 2)) Q 7 ([some (.inr (.inr (some 69))), some (.inl a1), some (.inl x5), some (.inl x6)], [], h10, kc, ks) := by
    intro m8
    induction m8 with
    | zero => intro x5 x6 h10 hO10 hu10 iv15 px11 px12 px13 px14 mm16; omega
    | succ m8 ih9 =>
      intro x5 x6 h10 hO10 hu10 iv15 px11 px12 px13 px14 mm16
      obtain ⟨xs18, hc17, hn19, he20⟩ := hO10.int (hO10.fix 85 (by decide) rfl)
      refine ur_ldI rfl rfl ?_
      refine ur_push rfl ?_
      refine ur_ldI rfl rfl ?_
      refine ur_binV rfl (fun x21 e22 => ?_)
      have t23 := ti_mulR e22 l_61 (by omega) (by omega)
      refine ur_ldA rfl rfl ?_
      obtain ⟨fs24, hc25⟩ := hO10.mod
      refine ur_get rfl hc25 (mf_26 hO10 hc25) ?_
      refine ur_ldI rfl rfl ?_
      refine ur_aldV rfl hc17 hn19 (by omega) (fun x26 hx27 => ?_)
      have t28 : 0 ≤ x26.toInt ∧ x26.toInt ≤ 61 := he20 _ _ hx27
      have t29 : x26.toInt = (ls.length : Int) := (congrArg Int32.toInt (gd5 hc17 hx27 (arI_keep (a := 85) hO0 hu10 (by decide) rfl (by decide) rfl (by decide) (by decide)))).symm.trans pre0.2.2.1
      refine ur_binV rfl (fun x30 e31 => ?_)
      have z32 := any_r x21
      have z33 := any_r x26
      have t34 := ti_add e31 (by omega) (by omega)
      have z35 := any_r x6
      have z36 := any_r x30
      refine ur_if2 rfl (fun c37 => ?_) (fun c37 => ?_)
      · have t38 := le_to c37
        refine ur_push rfl ?_
        exact ur_ret rfl rfl (hQ _ _ ⟨_, rfl, (px12.e (by omega)).symm⟩ hO10 hu10 px14)
      · have t39 := le_no c37
        obtain ⟨xs41, hc40, hn42, he43⟩ := hO10.sho (hO10.fix 86 (by decide) rfl)
        obtain ⟨xs45, hc44, hn46, he47⟩ := hO10.sho (hO10.fix 87 (by decide) rfl)
        obtain ⟨x48, hx49⟩ : ∃ z, xs41[x6.toInt.toNat]? = some z := ⟨_, List.getElem?_eq_getElem (by omega)⟩
        have t50 : 0 ≤ x48.toInt ∧ x48.toInt ≤ 130 := he43 _ _ hx49
        obtain ⟨x51, hx52⟩ : ∃ z, xs45[x6.toInt.toNat]? = some z := ⟨_, List.getElem?_eq_getElem (by omega)⟩
        have t53 : 0 ≤ x51.toInt ∧ x51.toInt ≤ 130 := he47 _ _ hx52
        obtain ⟨N54, N55, N56, N57, N58, N59⟩ := ln_at (p := a1) (l := x6) (fst := x5) hX0.2.2.2.2 hO0 hu10 (by decide) hc40 hc44 hc17 hx49 hx52 hx27 (by omega) (by omega) px11 (by omega)
        obtain ⟨q60, q61, q62, q63, q64, q65⟩ := px12.l (by omega)
        have r66 := RLn.ln pre0 q61 rfl
        have t67 : x48.toInt = x5.toInt + (q60.1.length : Int) := by rw [q63, ← r66.1, ← gd6 (l := x6) (n := 61 * iN a1 + (x6.toInt - 61 * a1.toInt).toNat) hc40 hx49 (arI_keep (a := 86) hO0 hu10 (by decide) rfl (by decide) rfl (by decide) (by decide)) (by unfold iN; omega)]
        have t68 : x51.toInt = x5.toInt + (q60.1.length : Int) + (q60.2.length : Int) := by rw [q63, ← r66.2.1, ← gd6 (l := x6) (n := 61 * iN a1 + (x6.toInt - 61 * a1.toInt).toNat) hc44 hx52 (arI_keep (a := 87) hO0 hu10 (by decide) rfl (by decide) rfl (by decide) (by decide)) (by unfold iN; omega)]
        refine ur_ldA rfl rfl ?_
        refine ur_get rfl hc25 (mf_27 hO10 hc25) ?_
        refine ur_ldI rfl rfl ?_
        refine ur_aldV rfl hc40 hn42 (by omega) (fun x69 hx70 => ?_)
        obtain rfl : x48 = x69 := Option.some.inj (hx49.symm.trans hx70)
        refine ur_ldI rfl rfl ?_
        have z71 := any_r x48
        have z72 := any_r x5
        refine ur_if2 rfl (fun c73 => ?_) (fun c73 => ?_)
        · have t74 := eq_to c73
          refine ur_ldA rfl rfl ?_
          refine ur_ldI rfl rfl ?_
          refine ur_ldA rfl rfl ?_
          refine ur_get rfl hc25 (mf_27 hO10 hc25) ?_
          refine ur_ldI rfl rfl ?_
          refine ur_aldV rfl hc40 hn42 (by omega) (fun x75 hx76 => ?_)
          obtain rfl : x48 = x75 := Option.some.inj (hx49.symm.trans hx76)
          refine ur_ldA rfl rfl ?_
          refine ur_get rfl hc25 (mf_28 hO10 hc25) ?_
          refine ur_ldI rfl rfl ?_
          refine ur_aldV rfl hc44 hn46 (by omega) (fun x77 hx78 => ?_)
          obtain rfl : x51 = x77 := Option.some.inj (hx52.symm.trans hx78)
          refine ur_inl rfl (rcv_of hc25) (Nat.le_of_ble_eq_true rfl) (Nat.le_of_ble_eq_true rfl) (st_X12_worked hO10 _ (by show 0 ≤ a1.toInt ∧ a1.toInt ≤ 10; omega) _ (by show 0 ≤ x48.toInt ∧ x48.toInt ≤ 130; omega) _ (by show 0 ≤ x51.toInt ∧ x51.toInt ≤ 130; omega) (by omega) (txs_keep hO0 hu10 (by decide) (by decide) N58) ((sgp_c (h := h0) (arI_keep (a := 83) hO0 hu10 (by decide) rfl (by decide) rfl (by decide) (by decide)) (arI_keep (a := 84) hO0 hu10 (by decide) rfl (by decide) rfl (by decide) (by decide)) _ _).trans (r66.2.2.2 _ _ (by unfold iN; omega) (by unfold iN; omega))) (pre1 _ q62).2 (fun w79 h83 hr80 hO83 hv83 hp81 hp82 => ?_))
          have hu83 := hv83
          obtain ⟨x84, rfl, f85⟩ := hr80
          show uRun _ (uCall Mt _) _ 64 (_, [(.inl x84)], _, _, _)
          exact ur_ret rfl rfl (hQ _ _ ⟨_, rfl, (f85.trans (by rw [(nuM_c px13)])).trans (q64 (Or.inl (List.length_eq_zero_iff.mp (by omega)))).symm⟩ hO83 (hu10.tr hu83) (hp82.trans px14))
        · have t86 := eq_no c73
          refine ur_ldA rfl rfl ?_
          refine ur_ldI rfl rfl ?_
          refine ur_ldI rfl rfl ?_
          refine ur_ldA rfl rfl ?_
          refine ur_get rfl hc25 (mf_27 hO10 hc25) ?_
          refine ur_ldI rfl rfl ?_
          refine ur_aldV rfl hc40 hn42 (by omega) (fun x87 hx88 => ?_)
          obtain rfl : x48 = x87 := Option.some.inj (hx49.symm.trans hx88)
          refine ur_inl rfl (rcv_of hc25) (Nat.le_of_ble_eq_true rfl) (Nat.le_of_ble_eq_true rfl) (st_X12_worked hO10 _ (by show 0 ≤ a1.toInt ∧ a1.toInt ≤ 10; omega) _ (by show 0 ≤ x5.toInt ∧ x5.toInt ≤ 130; omega) _ (by show 0 ≤ x48.toInt ∧ x48.toInt ≤ 130; omega) (by omega) (txs_keep hO0 hu10 (by decide) (by decide) (N57 (by omega))) ((sgp_c (h := h0) (arI_keep (a := 83) hO0 hu10 (by decide) rfl (by decide) rfl (by decide) (by decide)) (arI_keep (a := 84) hO0 hu10 (by decide) rfl (by decide) rfl (by decide) (by decide)) _ _).trans (r66.2.2.1 _ _ (by unfold iN; omega) (by unfold iN; omega))) ((pre1 _ q62).1.resolve_left (fun q => by have := congrArg List.length q; rw [List.length_nil] at this; omega)) (fun w89 h93 hr90 hO93 hv93 hp91 hp92 => ?_))
          have hu93 := hv93
          obtain ⟨x94, rfl, f95⟩ := hr90
          show uRun _ (uCall Mt _) _ 44 (_, [(.inl x94)], _, _, _)
          refine ur_if1 rfl (fun c96 => ?_) (fun c96 => ?_)
          · have t97 := eq_to c96
            refine ur_ldA rfl rfl ?_
            obtain ⟨fs98, hc99⟩ := hO93.mod
            refine ur_get rfl hc99 (mf_28 hO93 hc99) ?_
            refine ur_ldI rfl rfl ?_
            refine ur_aldV rfl (hv93.ka (n := 732) hc44 hn46 rfl (by decide) (wid_f (by decide)) (by decide)) hn46 (by omega) (fun x100 hx101 => ?_)
            obtain rfl : x51 = x100 := Option.some.inj (hx52.symm.trans hx101)
            refine ur_svIk [some (.inr (.inr (some 69))), some (.inl a1), some (.inl x51), some (.inl x6)] rfl rfl ?_
            refine ur_incV (fun z => [some (.inr (.inr (some 69))), some (.inl a1), some (.inl x51), some (.inl z)]) rfl rfl (fun _ => rfl) (fun x102 e103 => ?_)
            have t104 := ti_add e103 (by omega) (by omega)
            refine ur_go rfl ?_
            have z105 := any_r x51
            have z106 := any_r x102
            exact ih9 x51 x102 _ hO93 (hu10.tr hu93) (by omega) (by rw [show iN x102 = iN x6 + 1 by unfold iN; omega]; exact N59) (q65 (fun q => by have := congrArg List.length q; rw [List.length_nil] at this; omega) (by rw [← nuM_c px13, ← f95]; exact z_of (by omega)) _ _ (by omega) (by omega)) (hp91.trans px13) (hp92.trans px14) (by omega)
          · have t107 := eq_no c96
            have n108 : x94 ≠ 0 := nz_of9 (by omega)
            refine ur_ldA rfl rfl ?_
            refine ur_ldI rfl rfl ?_
            refine ur_ldA rfl rfl ?_
            obtain ⟨fs109, hc110⟩ := hO93.mod
            refine ur_get rfl hc110 (mf_27 hO93 hc110) ?_
            refine ur_ldI rfl rfl ?_
            refine ur_aldV rfl (hv93.ka (n := 732) hc40 hn42 rfl (by decide) (wid_f (by decide)) (by decide)) hn42 (by omega) (fun x111 hx112 => ?_)
            obtain rfl : x48 = x111 := Option.some.inj (hx49.symm.trans hx112)
            refine ur_ldA rfl rfl ?_
            refine ur_get rfl hc110 (mf_28 hO93 hc110) ?_
            refine ur_ldI rfl rfl ?_
            refine ur_aldV rfl (hv93.ka (n := 732) hc44 hn46 rfl (by decide) (wid_f (by decide)) (by decide)) hn46 (by omega) (fun x113 hx114 => ?_)
            obtain rfl : x51 = x113 := Option.some.inj (hx52.symm.trans hx114)
            refine ur_inl rfl (rcv_of hc110) (Nat.le_of_ble_eq_true rfl) (Nat.le_of_ble_eq_true rfl) (st_X12_worked hO93 _ (by show 0 ≤ a1.toInt ∧ a1.toInt ≤ 10; omega) _ (by show 0 ≤ x48.toInt ∧ x48.toInt ≤ 130; omega) _ (by show 0 ≤ x51.toInt ∧ x51.toInt ≤ 130; omega) (by omega) (txs_keep hO0 (hu10.tr hu93) (by decide) (by decide) N58) ((sgp_c (h := h0) (arI_keep (a := 83) hO0 (hu10.tr hu93) (by decide) rfl (by decide) rfl (by decide) (by decide)) (arI_keep (a := 84) hO0 (hu10.tr hu93) (by decide) rfl (by decide) rfl (by decide) (by decide)) _ _).trans (r66.2.2.2 _ _ (by unfold iN; omega) (by unfold iN; omega))) (pre1 _ q62).2 (fun w115 h119 hr116 hO119 hv119 hp117 hp118 => ?_))
            have hu119 := hv119
            obtain ⟨x120, rfl, f121⟩ := hr116
            show uRun _ (uCall Mt _) _ 64 (_, [(.inl x120)], _, _, _)
            exact ur_ret rfl rfl (hQ _ _ ⟨_, rfl, (f121.trans (by rw [(nuM_c (hp91.trans px13))])).trans (q64 (Or.inr (fun q => by have q2 := f95; rw [(nuM_c px13), q] at q2; rw [q2] at n108; exact absurd rfl n108))).symm⟩ hO119 (hu10.tr (hu93.tr hu119)) (hp118.trans (hp92.trans px14)))
  have z122 := any_r x1
  exact L7 _ 0 x1 _ hO0 un.rf (by omega) (by rw [show iN x1 - 61 * iN a1 = 0 by unfold iN; omega]; exact (by decide : iN 0 = 0)) (GS.z rfl (by omega) (by omega)) rfl rfl (Nat.lt_succ_self _)
end EVM
