/-! WHAT A TEXT GIVES, on the side of the class; printed by program but for its head -/
section EVC
/-! WHAT A TEXT GIVES -/
/-- the value of one that puts one value on the pile -/
def tvv (ν : Int → Int32) (e : List (Int × Int)) : Int32 := match tev ν 1000 e [] with
  | some (v :: _) => v
  | _ => 0
theorem tvv_e {ν : Int → Int32} {B m : Int} {e : List (Int × Int)} (h : blE B e) (hm : B ≤ m) (h2 : B ≤ 1000) : tev ν m e [] = some [tvv ν e] := by
  obtain ⟨v, g⟩ := h.1 ν
  have e1 : tvv ν e = v := by
    unfold tvv
    rw [g 1000 [] (by show (0 : Int) + B ≤ 1000; omega)]
  rw [e1]
  exact g m [] (by show (0 : Int) + B ≤ m; omega)
def tvl (ν : Int → Int32) : List (List (Int × Int) × List (Int × Int)) → Int32
  | [] => 0
  | l :: ls => if l.1 = [] ∨ tvv ν l.1 ≠ 0 then tvv ν l.2 else tvl ν ls
/-- the pile in a row -/
def PL (L s : List Int32) : Prop := L.take s.length = s.reverse ∧ s.length ≤ L.length
theorem PL.nil {L : List Int32} : PL L [] := ⟨by simp, by simp⟩
theorem PL.pop {L s : List Int32} {y : Int32} (h : PL L (y :: s)) : PL L s := by
  obtain ⟨a, b⟩ := h
  rw [List.length_cons] at a b
  refine ⟨?_, by omega⟩
  have e := congrArg (List.take s.length) a
  have e2 : (s.reverse ++ [y]).take s.length = s.reverse := List.take_left' (by simp)
  rw [List.take_take, Nat.min_eq_left (by omega), List.reverse_cons, e2] at e
  exact e
theorem PL.top {L s : List Int32} {y : Int32} (h : PL L (y :: s)) {n : Nat} (hn : n = s.length) : L[n]? = some y := by
  subst hn
  obtain ⟨a, b⟩ := h
  have e := congrArg (fun l => l[s.length]?) a
  simp only [List.length_cons] at e
  rw [List.getElem?_take, if_pos (by omega), List.reverse_cons, List.getElem?_append_right (by simp)] at e
  simpa using e
theorem PL.push {L s : List Int32} {y : Int32} (h : PL L s) {n : Nat} (hn : n = s.length) (hl : n < L.length) : PL (L.set n y) (y :: s) := by
  subst hn
  obtain ⟨a, b⟩ := h
  refine ⟨?_, by rw [List.length_cons, List.length_set]; omega⟩
  rw [List.length_cons, tk_set hl, a, List.reverse_cons]
theorem PL.len {L s : List Int32} (h : PL L s) : s.length ≤ L.length := h.2
/- the class: from a place on, with a pile, it comes to R -/
def CB (u : List Int) (ν : Int → Int32) (R : Int32) (q : Nat) : Prop := ∃ e p, p = q + e.length ∧ u.drop q = e.map cod ++ u.drop p ∧ (∀ x ∈ e, tok x) ∧ tev ν 64 e [] = some [R] ∧ u[p]? = some 15
def CS (u : List Int) (ν : Int → Int32) (R : Int32) (q : Nat) : Prop := ∃ rest, u.drop q = cfl q rest ∧ (∀ l ∈ rest, lnG l) ∧ R = tvl ν rest
def CF (u : List Int) (ν : Int → Int32) (R : Int32) (p : Nat) (v : Int32) : Prop := (u[p]? = some 15 ∧ R = v) ∨ ∃ w : Nat, u[p]? = some (16 * (w : Int) + 14) ∧ p < w ∧ (v = 0 → CS u ν R w) ∧ (v ≠ 0 → CB u ν R (p + 1))
def CV (u : List Int) (ν : Int → Int32) (R : Int32) (q : Nat) (s : List Int32) : Prop := (∃ e v p, p = q + e.length ∧ u.drop q = e.map cod ++ u.drop p ∧ (∀ x ∈ e, tok x) ∧ tev ν 64 e s = some [v] ∧ CF u ν R p v) ∨ (s = [] ∧ u.length ≤ q ∧ R = 0)
theorem drop_at {u a b : List Int} {q : Nat} (h : u.drop q = a ++ b) : u.drop (q + a.length) = b := by
  have e := congrArg (List.drop a.length) h
  rw [List.drop_drop, List.drop_left'] at e
  · exact e
  · rfl
theorem drop_hd {u b : List Int} {q : Nat} {c : Int} (h : u.drop q = c :: b) : u[q]? = some c := by
  have e := congrArg (fun l => l[0]?) h
  simp only [List.getElem?_drop, Nat.add_zero, List.getElem?_cons_zero] at e
  exact e
theorem CB.v {u : List Int} {ν : Int → Int32} {R : Int32} {q : Nat} (h : CB u ν R q) : CV u ν R q [] := by
  obtain ⟨e, p, h1, h2, h3, h4, h5⟩ := h
  exact Or.inl ⟨e, R, p, h1, h2, h3, h4, Or.inl ⟨h5, rfl⟩⟩
theorem CS.v {u : List Int} {ν : Int → Int32} {R : Int32} {q : Nat} (h : CS u ν R q) : CV u ν R q [] := by
  obtain ⟨rest, h1, h2, h3⟩ := h
  cases rest with
  | nil =>
    have h1 : u.drop q = [] := h1
    exact Or.inr ⟨rfl, List.drop_eq_nil_iff.mp h1, h3⟩
  | cons l rest =>
    have hl := h2 l List.mem_cons_self
    have h1 : u.drop q = cln q l ++ cfl (q + (cln q l).length) rest := h1
    have h3 : R = if l.1 = [] ∨ tvv ν l.1 ≠ 0 then tvv ν l.2 else tvl ν rest := h3
    have t2 : tev ν 64 l.2 [] = some [tvv ν l.2] := tvv_e hl.2 (by omega) (by omega)
    by_cases k : l.1 = []
    · rw [if_pos (Or.inl k)] at h3
      unfold cln at h1
      rw [if_pos k] at h1
      simp only [List.nil_append, List.append_assoc] at h1
      have d := drop_at h1
      rw [List.length_map] at d
      refine Or.inl ⟨l.2, tvv ν l.2, q + l.2.length, rfl, by rw [d]; exact h1, hl.2.2.1, t2, Or.inl ⟨drop_hd d, h3⟩⟩
    · have hb := hl.1.resolve_left k
      have t1 : tev ν 64 l.1 [] = some [tvv ν l.1] := tvv_e hb (by omega) (by omega)
      have e9 : u.drop (q + (cln q l).length) = cfl (q + (cln q l).length) rest := drop_at h1
      have el : (cln q l).length = l.1.length + l.2.length + 2 := by
        unfold cln
        rw [if_neg k]
        simp only [List.length_append, List.length_map, List.length_cons, List.length_nil]
        omega
      rw [el] at e9
      unfold cln at h1
      rw [if_neg k] at h1
      simp only [List.append_assoc] at h1
      have d := drop_at h1
      rw [List.length_map] at d
      have d2 := drop_at (a := [_]) d
      have d3 := drop_at d2
      simp only [List.length_map, List.length_cons, List.length_nil, Nat.zero_add] at d2 d3
      refine Or.inl ⟨l.1, tvv ν l.1, q + l.1.length, rfl, by rw [d]; exact h1, hb.2.1, t1, Or.inr ⟨q + l.1.length + l.2.length + 2, drop_hd d, by omega, fun z => ?_, fun z => ?_⟩⟩
      · refine ⟨rest, ?_, fun m hm => h2 m (List.mem_cons_of_mem _ hm), ?_⟩
        · rw [show q + l.1.length + l.2.length + 2 = q + (l.1.length + l.2.length + 2) by omega]
          exact e9
        · rw [h3, if_neg (fun r => r.elim k (fun r => r z))]
      · rw [if_pos (Or.inr z)] at h3
        exact ⟨l.2, q + l.1.length + 1 + l.2.length, rfl, by rw [d3]; exact d2, hl.2.2.1, by rw [h3]; exact t2, drop_hd d3⟩
/-- what one step does -/
def twk (k : Int) (x y : Int32) : Int32 := if k = 4 then x * y else if k = 5 then (if y = 0 then 0 else x / y) else if k = 6 then (if y = 0 then 0 else x - x / y * y) else if k = 7 then x + y else if k = 8 then x - y else if k = 9 then (if x.toInt < y.toInt then 1 else 0) else if k = 10 then (if x = y then 1 else 0) else if k = 11 then (if y.toInt < x.toInt then 1 else 0) else if k = 12 then (if x ≠ 0 ∧ y ≠ 0 then 1 else 0) else (if x ≠ 0 ∨ y ≠ 0 then 1 else 0)
theorem twk_e {a : Int} {x y : Int32} (h : a = 37 ∨ a = 38 ∨ a = 42 ∨ a = 43 ∨ a = 45 ∨ a = 47 ∨ a = 60 ∨ a = 61 ∨ a = 62 ∨ a = 124) : (4 ≤ cdk a ∧ cdk a ≤ 13) ∧ tw a x y = twk (cdk a) x y := by
  rcases h with q | q | q | q | q | q | q | q | q | q <;> subst q <;> exact ⟨by decide, rfl⟩
def CK (u : List Int) (ν : Int → Int32) (R : Int32) (q : Nat) (s : List Int32) (k v : Int) : Prop :=
  (k = 0 ∧ s.length < 64 ∧ 0 ≤ v ∧ v ≤ 999999 ∧ CV u ν R (q + 1) (Int32.ofInt v :: s)) ∨
  (k = 1 ∧ s.length < 64 ∧ 0 ≤ v ∧ v ≤ 9 ∧ CV u ν R (q + 1) (ν v :: s)) ∨
  (k = 2 ∧ ∃ y r, s = y :: r ∧ CV u ν R (q + 1) ((if y = 0 then 1 else 0) :: r)) ∨
  (k = 3 ∧ ∃ y r, s = y :: r ∧ CV u ν R (q + 1) (-y :: r)) ∨
  ((4 ≤ k ∧ k ≤ 13) ∧ ∃ y z r, s = y :: z :: r ∧ CV u ν R (q + 1) (twk k z y :: r)) ∨
  (k = 14 ∧ ∃ y, s = [y] ∧ (y = 0 → (q : Int) < v ∧ CV u ν R v.toNat []) ∧ (y ≠ 0 → CV u ν R (q + 1) [])) ∨
  (k = 15 ∧ ∃ y, s = [y] ∧ R = y)
theorem CV.k {u : List Int} {ν : Int → Int32} {R : Int32} {q : Nat} {s : List Int32} {c : Int} (H : CV u ν R q s) (hu : u[q]? = some c) : CK u ν R q s (c % 16) (c / 16) := by
  rcases H with ⟨e, v, p, hp, hd, ht, hv, hf⟩ | ⟨-, hl, -⟩
  · cases e with
    | nil =>
      have hv : some s = some [v] := hv
      have hv : s = [v] := Option.some.inj hv
      have hp : p = q := hp
      subst hp hv
      rcases hf with ⟨f1, f2⟩ | ⟨w, f1, f2, f3, f4⟩
      · rw [hu] at f1
        obtain rfl : c = 15 := Option.some.inj f1
        exact Or.inr (Or.inr (Or.inr (Or.inr (Or.inr (Or.inr ⟨by decide, v, rfl, f2⟩)))))
      · rw [hu] at f1
        have f1 : c = 16 * (w : Int) + 14 := Option.some.inj f1
        refine Or.inr (Or.inr (Or.inr (Or.inr (Or.inr (Or.inl ⟨by omega, v, rfl, fun z => ⟨by omega, ?_⟩, fun z => (f4 z).v⟩)))))
        rw [show (c / 16).toNat = w by omega]
        exact (f3 z).v
    | cons x e =>
      obtain ⟨a, x⟩ := x
      have hd' : u.drop q = cod (a, x) :: (e.map cod ++ u.drop p) := hd
      have hc := drop_hd hd'
      rw [hu] at hc
      have hc : c = 16 * x + cdk a := Option.some.inj hc
      have d1 : u.drop (q + 1) = e.map cod ++ u.drop p := drop_at (a := [cod (a, x)]) hd'
      have ta : tok (a, x) := ht _ List.mem_cons_self
      have te : ∀ y ∈ e, tok y := fun y hy => ht y (List.mem_cons_of_mem _ hy)
      have hp : p = q + (e.length + 1) := hp
      have hv : (match tk ν 64 a x s with
        | some s' => tev ν 64 e s'
        | none => none) = some [v] := hv
      have go : ∀ s', tk ν 64 a x s = some s' → CV u ν R (q + 1) s' := fun s' hs => by
        rw [hs] at hv
        exact Or.inl ⟨e, v, p, by omega, d1, te, hv, hf⟩
      have ta : (a = 1 ∧ 0 ≤ x ∧ x ≤ 999999) ∨ (a = 2 ∧ 0 ≤ x ∧ x ≤ 9) ∨ ((a = 3 ∨ a = 4 ∨ a = 37 ∨ a = 38 ∨ a = 42 ∨ a = 43 ∨ a = 45 ∨ a = 47 ∨ a = 60 ∨ a = 61 ∨ a = 62 ∨ a = 124) ∧ x = 0) := ta
      rcases ta with ⟨t1, t2⟩ | ⟨t1, t2⟩ | ⟨t1, t2⟩
      · subst t1
        have hc : c = 16 * x + 0 := hc
        by_cases l : (s.length : Int) + 1 ≤ 64
        · refine Or.inl ⟨by omega, by omega, by omega, by omega, ?_⟩
          rw [show c / 16 = x by omega]
          refine go _ ?_
          unfold tk
          rw [if_pos (by omega), if_pos l, if_pos rfl]
        · unfold tk at hv
          rw [if_pos (by omega), if_neg l] at hv
          exact absurd hv (by simp)
      · subst t1
        have hc : c = 16 * x + 1 := hc
        by_cases l : (s.length : Int) + 1 ≤ 64
        · refine Or.inr (Or.inl ⟨by omega, by omega, by omega, by omega, ?_⟩)
          rw [show c / 16 = x by omega]
          refine go _ ?_
          unfold tk
          rw [if_pos (by omega), if_pos l, if_neg (by decide)]
        · unfold tk at hv
          rw [if_pos (by omega), if_neg l] at hv
          exact absurd hv (by simp)
      · subst t2
        by_cases k3 : a = 3
        · subst k3
          have hc : c = 16 * 0 + 2 := hc
          cases s with
          | nil => exact absurd hv (by simp [tk])
          | cons y r => exact Or.inr (Or.inr (Or.inl ⟨by omega, y, r, rfl, go _ rfl⟩))
        · by_cases k4 : a = 4
          · subst k4
            have hc : c = 16 * 0 + 3 := hc
            cases s with
            | nil => exact absurd hv (by simp [tk])
            | cons y r => exact Or.inr (Or.inr (Or.inr (Or.inl ⟨by omega, y, r, rfl, go _ rfl⟩)))
          · match s, hv, go with
            | [], hv, _ =>
              unfold tk at hv
              rw [if_neg (by omega), if_neg k3, if_neg k4] at hv
              exact absurd hv (by simp)
            | [_], hv, _ =>
              unfold tk at hv
              rw [if_neg (by omega), if_neg k3, if_neg k4] at hv
              exact absurd hv (by simp)
            | y :: z :: r, hv, go =>
              have w := twk_e (a := a) (x := z) (y := y) (by omega)
              refine Or.inr (Or.inr (Or.inr (Or.inr (Or.inl ⟨by omega, y, z, r, rfl, ?_⟩))))
              rw [show c % 16 = cdk a by omega, ← w.2]
              refine go _ ?_
              unfold tk
              rw [if_neg (by omega), if_neg k3, if_neg k4]
  · rw [List.getElem?_eq_none (by omega)] at hu
    exact absurd hu (by simp)
theorem CV.e {u : List Int} {ν : Int → Int32} {R : Int32} {q : Nat} {s : List Int32} (H : CV u ν R q s) (hl : u.length ≤ q) : R = 0 := by
  rcases H with ⟨e, v, p, hp, hd, ht, hv, hf⟩ | ⟨-, -, h⟩
  · exfalso
    have z : u[p]? = none := List.getElem?_eq_none (by omega)
    rcases hf with ⟨f, -⟩ | ⟨w, f, -⟩ <;> (rw [z] at f; exact absurd f (by simp))
  · exact h
/- the class's run over a text -/
theorem CK.le {u : List Int} {ν : Int → Int32} {R : Int32} {q : Nat} {s : List Int32} {k v : Int} (K : CK u ν R q s k v) : (k = 0 ∨ k = 1 → s.length < 64 ∧ 0 ≤ v ∧ (k = 1 → v ≤ 9)) ∧ (2 ≤ k → 1 ≤ s.length) ∧ (4 ≤ k ∧ k ≤ 13 → 2 ≤ s.length) := by
  rcases K with ⟨a, b, c, d, -⟩ | ⟨a, b, c, d, -⟩ | ⟨a, y, r, e, -⟩ | ⟨a, y, r, e, -⟩ | ⟨a, y, z, r, e, -⟩ | ⟨a, y, e, -⟩ | ⟨a, y, e, -⟩
  · exact ⟨fun _ => ⟨b, c, fun _ => by omega⟩, fun _ => by omega, fun _ => by omega⟩
  · exact ⟨fun _ => ⟨b, c, fun _ => d⟩, fun _ => by omega, fun _ => by omega⟩
  · subst e
    exact ⟨fun _ => by omega, fun _ => by simp, fun _ => by omega⟩
  · subst e
    exact ⟨fun _ => by omega, fun _ => by simp, fun _ => by omega⟩
  · subst e
    exact ⟨fun _ => by omega, fun _ => by simp, fun _ => by simp⟩
  · subst e
    exact ⟨fun _ => by omega, fun _ => by simp, fun _ => by omega⟩
  · subst e
    exact ⟨fun _ => by omega, fun _ => by simp, fun _ => by omega⟩
def VS (u : List Int) (ν : Int → Int32) (R : Int32) (L : List Int32) (top p : Int) : Prop := ∃ s : List Int32, (s.length : Int) = top + 1 ∧ PL L s ∧ 0 ≤ p ∧ CV u ν R p.toNat s
theorem VS.z {u : List Int} {ν : Int → Int32} {R : Int32} {L : List Int32} {top p : Int} {ls : List (List (Int × Int) × List (Int × Int))} (hu : u = cfl 0 ls) (hg : ∀ l ∈ ls, lnG l) (hR : R = tvl ν ls) (et : top = -1) (ep : p = 0) : VS u ν R L top p := by
  subst et ep
  exact ⟨[], rfl, PL.nil, by omega, CS.v ⟨ls, hu, hg, hR⟩⟩
theorem VS.e {u : List Int} {ν : Int → Int32} {R : Int32} {L : List Int32} {top p : Int} (H : VS u ν R L top p) (hl : (u.length : Int) ≤ p) : R = 0 := by
  obtain ⟨s, -, -, h0, c⟩ := H
  exact c.e (by omega)
theorem VS.p {u : List Int} {ν : Int → Int32} {R : Int32} {L : List Int32} {top p c : Int} (H : VS u ν R L top p) (hu : u[p.toNat]? = some c) (hk : c % 16 = 0 ∨ c % 16 = 1) : top + 1 < 64 ∧ 0 ≤ c / 16 ∧ (c % 16 = 1 → c / 16 ≤ 9) := by
  obtain ⟨s, a, -, -, h⟩ := H
  have g := (h.k hu).le.1 hk
  exact ⟨by omega, g.2⟩
theorem VS.n {u : List Int} {ν : Int → Int32} {R : Int32} {L : List Int32} {top p c : Int} (H : VS u ν R L top p) (hu : u[p.toNat]? = some c) (hk : 2 ≤ c % 16) : 0 ≤ top := by
  obtain ⟨s, a, -, -, h⟩ := H
  have g := (h.k hu).le.2.1 hk
  omega
theorem VS.b {u : List Int} {ν : Int → Int32} {R : Int32} {L : List Int32} {top p c : Int} (H : VS u ν R L top p) (hu : u[p.toNat]? = some c) (hk : 4 ≤ c % 16 ∧ c % 16 ≤ 13) : 1 ≤ top := by
  obtain ⟨s, a, -, -, h⟩ := H
  have g := (h.k hu).le.2.2 hk
  omega
theorem VS.mk {u : List Int} {ν : Int → Int32} {R : Int32} {L L' s : List Int32} {top' p p' j : Int} {X : Int32} (a : PL L s) (n : (s.length : Int) = j) (h0 : 0 ≤ p) (hl : L.length = 64) (hj : j < 64) (eL : L' = L.set j.toNat X) (et : top' = j) (ep : p' = p + 1) (c : CV u ν R (p.toNat + 1) (X :: s)) : VS u ν R L' top' p' := by
  subst eL et ep
  refine ⟨X :: s, by rw [List.length_cons]; omega, a.push (by omega) (by omega), by omega, ?_⟩
  rw [show (p + 1).toNat = p.toNat + 1 by omega]
  exact c
theorem VS.k0 {u : List Int} {ν : Int → Int32} {R : Int32} {L L' : List Int32} {top top' p p' c j : Int} {X : Int32} (H : VS u ν R L top p) (hu : u[p.toNat]? = some c) (hk : c % 16 = 0) (hX : X.toInt = c / 16) (hl : L.length = 64) (eL : L' = L.set j.toNat X) (hj : j = top + 1) (et : top' = j) (ep : p' = p + 1) : VS u ν R L' top' p' := by
  obtain ⟨s, a, b, h0, h⟩ := H
  have K := h.k hu
  rcases K with ⟨a', q, -, -, K⟩ | ⟨a', -⟩ | ⟨a', -⟩ | ⟨a', -⟩ | ⟨a', -⟩ | ⟨a', -⟩ | ⟨a', -⟩
  · rw [← hX, Int32.ofInt_toInt] at K
    exact VS.mk b (by omega) h0 hl (by omega) eL et ep K
  all_goals omega
theorem VS.k1 {u : List Int} {ν : Int → Int32} {R : Int32} {L L' : List Int32} {top top' p p' c j : Int} {X : Int32} (H : VS u ν R L top p) (hu : u[p.toNat]? = some c) (hk : c % 16 = 1) (hX : X = ν (c / 16)) (hl : L.length = 64) (eL : L' = L.set j.toNat X) (hj : j = top + 1) (et : top' = j) (ep : p' = p + 1) : VS u ν R L' top' p' := by
  obtain ⟨s, a, b, h0, h⟩ := H
  have K := h.k hu
  rcases K with ⟨a', -⟩ | ⟨a', q, -, -, K⟩ | ⟨a', -⟩ | ⟨a', -⟩ | ⟨a', -⟩ | ⟨a', -⟩ | ⟨a', -⟩
  · omega
  · rw [← hX] at K
    exact VS.mk b (by omega) h0 hl (by omega) eL et ep K
  all_goals omega
theorem PL.eq {L r : List Int32} {y z : Int32} {n : Int} (b : PL L (y :: r)) (hy : L[n.toNat]? = some z) (hn : n = r.length) : y = z := by
  have g := b.top (n := n.toNat) (by omega)
  rw [hy] at g
  exact (Option.some.inj g).symm
theorem VS.k2 {u : List Int} {ν : Int → Int32} {R : Int32} {L L' : List Int32} {top top' p p' c j : Int} {X z : Int32} (H : VS u ν R L top p) (hu : u[p.toNat]? = some c) (hk : c % 16 = 2) (hy : L[top.toNat]? = some z) (hX : X = if z = 0 then 1 else 0) (hl : L.length = 64) (eL : L' = L.set j.toNat X) (hj : j = top) (et : top' = j) (ep : p' = p + 1) : VS u ν R L' top' p' := by
  obtain ⟨s, a, b, h0, h⟩ := H
  have K := h.k hu
  rcases K with ⟨a', -⟩ | ⟨a', -⟩ | ⟨a', y, r, e, K⟩ | ⟨a', -⟩ | ⟨a', -⟩ | ⟨a', -⟩ | ⟨a', -⟩
  · omega
  · omega
  · subst e
    rw [List.length_cons] at a
    have bl := b.len
    rw [List.length_cons] at bl
    obtain rfl := b.eq hy (by omega)
    rw [← hX] at K
    exact VS.mk b.pop (by omega) h0 hl (by omega) eL et ep K
  all_goals omega
theorem VS.k3 {u : List Int} {ν : Int → Int32} {R : Int32} {L L' : List Int32} {top top' p p' c j : Int} {X z : Int32} (H : VS u ν R L top p) (hu : u[p.toNat]? = some c) (hk : c % 16 = 3) (hy : L[top.toNat]? = some z) (hX : X = -z) (hl : L.length = 64) (eL : L' = L.set j.toNat X) (hj : j = top) (et : top' = j) (ep : p' = p + 1) : VS u ν R L' top' p' := by
  obtain ⟨s, a, b, h0, h⟩ := H
  have K := h.k hu
  rcases K with ⟨a', -⟩ | ⟨a', -⟩ | ⟨a', -⟩ | ⟨a', y, r, e, K⟩ | ⟨a', -⟩ | ⟨a', -⟩ | ⟨a', -⟩
  · omega
  · omega
  · omega
  · subst e
    rw [List.length_cons] at a
    have bl := b.len
    rw [List.length_cons] at bl
    obtain rfl := b.eq hy (by omega)
    rw [← hX] at K
    exact VS.mk b.pop (by omega) h0 hl (by omega) eL et ep K
  all_goals omega
theorem VS.kb {u : List Int} {ν : Int → Int32} {R : Int32} {L L' : List Int32} {top top' p p' c j k : Int} {X y z : Int32} (H : VS u ν R L top p) (hu : u[p.toNat]? = some c) (hk : k = c % 16 ∧ 4 ≤ k ∧ k ≤ 13) (hy : L[top.toNat]? = some y) (hz : L[j.toNat]? = some z) (hX : X = twk k z y) (hl : L.length = 64) (eL : L' = L.set j.toNat X) (hj : j = top - 1) (et : top' = j) (ep : p' = p + 1) : VS u ν R L' top' p' := by
  obtain ⟨s, a, b, h0, h⟩ := H
  have K := h.k hu
  rcases K with ⟨a', -⟩ | ⟨a', -⟩ | ⟨a', -⟩ | ⟨a', -⟩ | ⟨a', y', z', r, e, K⟩ | ⟨a', -⟩ | ⟨a', -⟩
  · omega
  · omega
  · omega
  · omega
  · subst e
    rw [List.length_cons, List.length_cons] at a
    have bl := b.len
    rw [List.length_cons, List.length_cons] at bl
    obtain rfl := b.eq hy (by rw [List.length_cons]; omega)
    obtain rfl := b.pop.eq hz (by omega)
    rw [← hk.1, ← hX] at K
    exact VS.mk b.pop.pop (by omega) h0 hl (by omega) eL et ep K
  all_goals omega
theorem VS.wn {u : List Int} {ν : Int → Int32} {R : Int32} {L : List Int32} {top p c : Int} {z : Int32} (H : VS u ν R L top p) (hu : u[p.toNat]? = some c) (hk : c % 16 = 14) (hy : L[top.toNat]? = some z) : top = 0 ∧ (z = 0 → p < c / 16 ∧ CV u ν R (c / 16).toNat []) ∧ (z ≠ 0 → CV u ν R (p.toNat + 1) []) := by
  obtain ⟨s, a, b, h0, h⟩ := H
  have K := h.k hu
  rcases K with ⟨a', -⟩ | ⟨a', -⟩ | ⟨a', -⟩ | ⟨a', -⟩ | ⟨a', -⟩ | ⟨a', y, e, K1, K2⟩ | ⟨a', -⟩
  · omega
  · omega
  · omega
  · omega
  · omega
  · subst e
    have a : (1 : Int) = top + 1 := a
    obtain rfl := b.eq hy (by show top = ((0 : Nat) : Int); omega)
    exact ⟨by omega, fun z => ⟨by have := (K1 z).1; omega, (K1 z).2⟩, K2⟩
  · omega
theorem VS.kz {u : List Int} {ν : Int → Int32} {R : Int32} {L L' : List Int32} {top top' p p' c : Int} {z : Int32} (H : VS u ν R L top p) (hu : u[p.toNat]? = some c) (hk : c % 16 = 14) (hy : L[top.toNat]? = some z) (hz : z = 0) (et : top' = top - 1) (ep : p' = c / 16) (hp : 0 ≤ p') : VS u ν R L' top' p' := by
  obtain ⟨a, b, -⟩ := H.wn hu hk hy
  refine ⟨[], by rw [et, a]; rfl, PL.nil, hp, ?_⟩
  rw [ep]
  exact (b hz).2
theorem VS.kn {u : List Int} {ν : Int → Int32} {R : Int32} {L L' : List Int32} {top top' p p' c : Int} {z : Int32} (H : VS u ν R L top p) (hu : u[p.toNat]? = some c) (hk : c % 16 = 14) (hy : L[top.toNat]? = some z) (hz : z ≠ 0) (et : top' = top - 1) (ep : p' = p + 1) (hp : 0 ≤ p) : VS u ν R L' top' p' := by
  obtain ⟨a, -, b⟩ := H.wn hu hk hy
  refine ⟨[], by rw [et, a]; rfl, PL.nil, by omega, ?_⟩
  rw [ep, show (p + 1).toNat = p.toNat + 1 by omega]
  exact b hz
theorem VS.r {u : List Int} {ν : Int → Int32} {R : Int32} {L : List Int32} {top p c : Int} {z : Int32} (H : VS u ν R L top p) (hu : u[p.toNat]? = some c) (hk : c % 16 = 15) (hy : L[top.toNat]? = some z) : z = R := by
  obtain ⟨s, a, b, h0, h⟩ := H
  have K := h.k hu
  rcases K with ⟨a', -⟩ | ⟨a', -⟩ | ⟨a', -⟩ | ⟨a', -⟩ | ⟨a', -⟩ | ⟨a', -⟩ | ⟨a', y, e, K⟩
  · omega
  · omega
  · omega
  · omega
  · omega
  · omega
  · subst e
    have a : (1 : Int) = top + 1 := a
    obtain rfl := b.eq hy (by show top = ((0 : Nat) : Int); omega)
    exact K.symm
def nuC (h : aH) (a : Nat) : Int → Int32 := fun j => (arI h a).getD j.toNat 0
theorem nuC_e {h h1 : aH} {a kd : Nat} {xs : List Int32} {j z : Int32} {v : Int} (hc : h1[a]? = some (.inr (kd, .inl xs))) (hx : xs[j.toInt.toNat]? = some z) (e : arI h1 a = arI h a) (hv : j.toInt = v) : z = nuC h a v := by
  subst hv
  unfold nuC
  rw [← e, arI_of hc, List.getD_eq_getElem?_getD, hx]
  rfl
theorem arL_at {h : aH} {a kd n : Nat} {xs : List Int32} {z : Int32} (hc : h[a]? = some (.inr (kd, .inl xs))) (hx : xs[n]? = some z) : (arI h a)[n]? = some z := by
  rw [arI_of hc]
  exact hx
theorem tx_at {h h0 : aH} {a kd : Nat} {xs : List Int32} {j z : Int32} {u : List Int} (hc : h[a + 1]? = some (.inr (kd, .inl xs))) (hx : xs[j.toInt.toNat]? = some z) (e : txC h a = txC h0 a) (eu : txC h0 a = u) (hj : 0 ≤ j.toInt ∧ j.toInt < fO h a 1) : u[j.toInt.toNat]? = some z.toInt := by
  rw [← eu, ← e]
  unfold txC
  rw [List.getElem?_map, List.getElem?_take, if_pos (by omega), arI_of hc, hx]
  rfl
theorem tx_len {h h0 : aH} {a kd n : Nat} {xs : List Int32} {u : List Int} (hc : h[a + 1]? = some (.inr (kd, .inl xs))) (hn : xs.length = n) (e : txC h a = txC h0 a) (eu : txC h0 a = u) (hj : 0 ≤ fO h a 1 ∧ fO h a 1 ≤ n) : (u.length : Int) = fO h a 1 := by
  rw [← eu, ← e]
  unfold txC
  rw [List.length_map, List.length_take, arI_of hc]
  omega
theorem and_15x {x z : Int32} (e : x &&& 15 = z) : z.toInt = x.toInt % 16 := by
  have h : z.toBitVec.toNat = x.toBitVec.toNat % 16 := by
    rw [← e]
    show ((x &&& 15).toBitVec).toNat = _
    rw [Int32.toBitVec_and, BitVec.toNat_and]
    exact Nat.and_two_pow_sub_one_eq_mod _ 4
  have cz : z.toInt = if 2 * z.toBitVec.toNat < 2 ^ 32 then (z.toBitVec.toNat : Int) else (z.toBitVec.toNat : Int) - ((2 ^ 32 : Nat) : Int) := BitVec.toInt_eq_toNat_cond _
  have cx : x.toInt = if 2 * x.toBitVec.toNat < 2 ^ 32 then (x.toBitVec.toNat : Int) else (x.toBitVec.toNat : Int) - ((2 ^ 32 : Nat) : Int) := BitVec.toInt_eq_toNat_cond _
  rw [if_pos (by omega)] at cz
  split at cx <;> omega
theorem z_of {x : Int32} (h : x.toInt = 0) : x = 0 := Int32.toInt_inj.mp h
theorem nz_of9 {x : Int32} (h : x.toInt ≠ 0) : x ≠ 0 := fun e => h (by rw [e]; rfl)
theorem div_m1 (x : Int32) : x / -1 = -x := by
  refine Int32.toInt_inj.mp ?_
  rw [Int32.toInt_div, show ((-1 : Int32)).toInt = -1 by decide, Int.tdiv_neg, Int.tdiv_one, Int32.toInt_neg]
theorem twk_l {k : Int} {x y z : Int32} (e : k = 4 ∧ x * y = z ∨ k = 7 ∧ x + y = z ∨ k = 8 ∧ x - y = z) : z = twk k x y := by
  rcases e with ⟨a, b⟩ | ⟨a, b⟩ | ⟨a, b⟩ <;> subst a b <;> rfl
theorem twk_d0 {k : Int} {x y : Int32} (hk : k = 5 ∨ k = 6) (h : y.toInt = 0) : 0 = twk k x y := by
  have h := z_of h
  rcases hk with a | a <;> subst a h <;> rfl
theorem twk_d {k : Int} {x y z : Int32} (h : y.toInt ≠ 0) (e : k = 5 ∧ x / y = z ∨ k = 6 ∧ x - x / y * y = z) : z = twk k x y := by
  have h := nz_of9 h
  rcases e with ⟨a, b⟩ | ⟨a, b⟩ <;> subst a b
  · exact (if_neg h).symm
  · exact (if_neg h).symm
theorem twk_m {k : Int} {x y z : Int32} (h : y.toInt = -1) (e : k = 5 ∧ -x = z ∨ k = 6 ∧ z = 0) : z = twk k x y := by
  have h : y = -1 := Int32.toInt_inj.mp (h.trans (by decide))
  rcases e with ⟨a, b⟩ | ⟨a, b⟩
  · subst a b h
    exact (div_m1 x).symm
  · subst a b h
    show 0 = x - x / -1 * -1
    rw [div_m1]
    grind
theorem twk_c {k : Int} {x y : Int32} : (k = 9 → (x.toInt < y.toInt → 1 = twk k x y) ∧ (¬ x.toInt < y.toInt → 0 = twk k x y)) ∧ (k = 10 → (x.toInt = y.toInt → 1 = twk k x y) ∧ (¬ x.toInt = y.toInt → 0 = twk k x y)) ∧ (k = 11 → (y.toInt < x.toInt → 1 = twk k x y) ∧ (¬ y.toInt < x.toInt → 0 = twk k x y)) := by
  refine ⟨fun e => ?_, fun e => ?_, fun e => ?_⟩
  · subst e
    exact ⟨fun h => (if_pos h).symm, fun h => (if_neg h).symm⟩
  · subst e
    exact ⟨fun h => (if_pos (Int32.toInt_inj.mp h)).symm, fun h => (if_neg (fun g => h (congrArg Int32.toInt g))).symm⟩
  · subst e
    exact ⟨fun h => (if_pos h).symm, fun h => (if_neg h).symm⟩
theorem twk_b {k : Int} {x y : Int32} : (k = 12 → (x.toInt ≠ 0 ∧ y.toInt ≠ 0 → 1 = twk k x y) ∧ (¬ (x.toInt ≠ 0 ∧ y.toInt ≠ 0) → 0 = twk k x y)) ∧ (k = 13 → (x.toInt ≠ 0 ∨ y.toInt ≠ 0 → 1 = twk k x y) ∧ (¬ (x.toInt ≠ 0 ∨ y.toInt ≠ 0) → 0 = twk k x y)) := by
  have c : ∀ x : Int32, x.toInt ≠ 0 ↔ x ≠ 0 := fun x => ⟨nz_of9, fun h g => h (z_of g)⟩
  refine ⟨fun e => ?_, fun e => ?_⟩
  · subst e
    rw [c, c]
    exact ⟨fun h => (if_pos h).symm, fun h => (if_neg h).symm⟩
  · subst e
    rw [c, c]
    exact ⟨fun h => (if_pos h).symm, fun h => (if_neg h).symm⟩
set_option maxRecDepth 20000 in
set_option maxHeartbeats 4000000 in
theorem st_X9_joined {d kc ks : Nat} {h0 : aH} {Q : Option aV → aH → Prop} (a0 : Int32) (a1 : Int32) (a2 : Int32) (hQ : ∀ r, (∃ x : Int32, r = some (.inl x) ∧ (4 ≤ a0.toInt ∧ a0.toInt ≤ 13 → x = twk a0.toInt a1 a2)) → Q r h0) : uCall Mt (d + 1) 113 [(.inl a0), (.inl a1), (.inl a2)] h0 kc ks Q := by
  have l_0 : ((0) : Int32).toInt = 0 := by decide
  have l_1 : ((1) : Int32).toInt = 1 := by decide
  refine uc_ink [some (.inl a0), some (.inl a1), some (.inl a2)] mt_113 (Nat.le_of_ble_eq_true rfl) rfl ?_
  refine ur_ldI rfl rfl ?_
  rcases (show (a0.toInt < 4 ∨ 13 < a0.toInt) ∨ a0.toInt = 4 ∨ a0.toInt = 5 ∨ a0.toInt = 6 ∨ a0.toInt = 7 ∨ a0.toInt = 8 ∨ a0.toInt = 9 ∨ a0.toInt = 10 ∨ a0.toInt = 11 ∨ a0.toInt = 12 ∨ a0.toInt = 13 by omega) with t1 | t1 | t1 | t1 | t1 | t1 | t1 | t1 | t1 | t1 | t1
  · refine ur_tabO rfl (by show a0.toInt < 4 ∨ 4 + 10 ≤ a0.toInt; omega) ?_
    refine ur_push rfl ?_
    exact ur_ret rfl rfl (hQ _ ⟨_, rfl, fun q => by exfalso; omega⟩ )
  · refine ur_tabI rfl (by omega) (by rw [t1]; rfl) ?_
    refine ur_ldI rfl rfl ?_
    refine ur_ldI rfl rfl ?_
    refine ur_binV rfl (fun x2 e3 => ?_)
    have z4 := any_r a1
    have z5 := any_r a2
    exact ur_ret rfl rfl (hQ _ ⟨_, rfl, fun _ => twk_l (Or.inl ⟨(show a0.toInt = 4 by omega), e3⟩)⟩ )
  · refine ur_tabI rfl (by omega) (by rw [t1]; rfl) ?_
    refine ur_ldI rfl rfl ?_
    refine ur_if1 rfl (fun c6 => ?_) (fun c6 => ?_)
    · have t7 := ne_to c6
      refine ur_ldI rfl rfl ?_
      refine ur_ldI rfl rfl ?_
      refine ur_divV rfl (of_decide_eq_true c6) (fun x8 e9 => ?_)
      have z10 := any_r a1
      have z11 := any_r a2
      exact ur_ret rfl rfl (hQ _ ⟨_, rfl, fun _ => twk_d (by omega) (Or.inl ⟨(show a0.toInt = 5 by omega), e9⟩)⟩ )
    · have t12 := ne_no c6
      refine ur_push rfl ?_
      refine ur_go rfl ?_
      exact ur_ret rfl rfl (hQ _ ⟨_, rfl, fun _ => twk_d0 (by omega) (by omega)⟩ )
  · refine ur_tabI rfl (by omega) (by rw [t1]; rfl) ?_
    refine ur_ldI rfl rfl ?_
    refine ur_if1 rfl (fun c13 => ?_) (fun c13 => ?_)
    · have t14 := ne_to c13
      refine ur_ldI rfl rfl ?_
      refine ur_ldI rfl rfl ?_
      refine ur_divV rfl (of_decide_eq_true c13) (fun x15 e16 => ?_)
      have z17 := any_r a1
      have z18 := any_r a2
      exact ur_ret rfl rfl (hQ _ ⟨_, rfl, fun _ => twk_d (by omega) (Or.inr ⟨(show a0.toInt = 6 by omega), e16⟩)⟩ )
    · have t19 := ne_no c13
      refine ur_push rfl ?_
      refine ur_go rfl ?_
      exact ur_ret rfl rfl (hQ _ ⟨_, rfl, fun _ => twk_d0 (by omega) (by omega)⟩ )
  · refine ur_tabI rfl (by omega) (by rw [t1]; rfl) ?_
    refine ur_ldI rfl rfl ?_
    refine ur_ldI rfl rfl ?_
    refine ur_binV rfl (fun x20 e21 => ?_)
    have z22 := any_r a1
    have z23 := any_r a2
    exact ur_ret rfl rfl (hQ _ ⟨_, rfl, fun _ => twk_l (Or.inr (Or.inl ⟨(show a0.toInt = 7 by omega), e21⟩))⟩ )
  · refine ur_tabI rfl (by omega) (by rw [t1]; rfl) ?_
    refine ur_ldI rfl rfl ?_
    refine ur_ldI rfl rfl ?_
    refine ur_binV rfl (fun x24 e25 => ?_)
    have z26 := any_r a1
    have z27 := any_r a2
    exact ur_ret rfl rfl (hQ _ ⟨_, rfl, fun _ => twk_l (Or.inr (Or.inr ⟨(show a0.toInt = 8 by omega), e25⟩))⟩ )
  · refine ur_tabI rfl (by omega) (by rw [t1]; rfl) ?_
    refine ur_ldI rfl rfl ?_
    refine ur_ldI rfl rfl ?_
    have z28 := any_r a1
    have z29 := any_r a2
    refine ur_if2 rfl (fun c30 => ?_) (fun c30 => ?_)
    · have t31 := le_to c30
      refine ur_push rfl ?_
      exact ur_ret rfl rfl (hQ _ ⟨_, rfl, fun _ => (twk_c.1 (show a0.toInt = 9 by omega)).2 (by omega)⟩ )
    · have t32 := le_no c30
      refine ur_push rfl ?_
      refine ur_go rfl ?_
      exact ur_ret rfl rfl (hQ _ ⟨_, rfl, fun _ => (twk_c.1 (show a0.toInt = 9 by omega)).1 (by omega)⟩ )
  · refine ur_tabI rfl (by omega) (by rw [t1]; rfl) ?_
    refine ur_ldI rfl rfl ?_
    refine ur_ldI rfl rfl ?_
    have z33 := any_r a1
    have z34 := any_r a2
    refine ur_if2 rfl (fun c35 => ?_) (fun c35 => ?_)
    · have t36 := ne_to c35
      refine ur_push rfl ?_
      exact ur_ret rfl rfl (hQ _ ⟨_, rfl, fun _ => (twk_c.2.1 (show a0.toInt = 10 by omega)).2 (by omega)⟩ )
    · have t37 := ne_no c35
      refine ur_push rfl ?_
      refine ur_go rfl ?_
      exact ur_ret rfl rfl (hQ _ ⟨_, rfl, fun _ => (twk_c.2.1 (show a0.toInt = 10 by omega)).1 (by omega)⟩ )
  · refine ur_tabI rfl (by omega) (by rw [t1]; rfl) ?_
    refine ur_ldI rfl rfl ?_
    refine ur_ldI rfl rfl ?_
    have z38 := any_r a1
    have z39 := any_r a2
    refine ur_if2 rfl (fun c40 => ?_) (fun c40 => ?_)
    · have t41 := le_to c40
      refine ur_push rfl ?_
      exact ur_ret rfl rfl (hQ _ ⟨_, rfl, fun _ => (twk_c.2.2 (show a0.toInt = 11 by omega)).2 (by omega)⟩ )
    · have t42 := le_no c40
      refine ur_push rfl ?_
      refine ur_go rfl ?_
      exact ur_ret rfl rfl (hQ _ ⟨_, rfl, fun _ => (twk_c.2.2 (show a0.toInt = 11 by omega)).1 (by omega)⟩ )
  · refine ur_tabI rfl (by omega) (by rw [t1]; rfl) ?_
    refine ur_ldI rfl rfl ?_
    refine ur_if1 rfl (fun c43 => ?_) (fun c43 => ?_)
    · have t44 := eq_to c43
      refine ur_push rfl ?_
      exact ur_ret rfl rfl (hQ _ ⟨_, rfl, fun _ => (twk_b.1 (show a0.toInt = 12 by omega)).2 (by omega)⟩ )
    · have t45 := eq_no c43
      refine ur_ldI rfl rfl ?_
      refine ur_if1 rfl (fun c46 => ?_) (fun c46 => ?_)
      · have t47 := eq_to c46
        refine ur_push rfl ?_
        exact ur_ret rfl rfl (hQ _ ⟨_, rfl, fun _ => (twk_b.1 (show a0.toInt = 12 by omega)).2 (by omega)⟩ )
      · have t48 := eq_no c46
        refine ur_push rfl ?_
        refine ur_go rfl ?_
        exact ur_ret rfl rfl (hQ _ ⟨_, rfl, fun _ => (twk_b.1 (show a0.toInt = 12 by omega)).1 (by omega)⟩ )
  · refine ur_tabI rfl (by omega) (by rw [t1]; rfl) ?_
    refine ur_ldI rfl rfl ?_
    refine ur_if1 rfl (fun c49 => ?_) (fun c49 => ?_)
    · have t50 := ne_to c49
      refine ur_push rfl ?_
      refine ur_go rfl ?_
      exact ur_ret rfl rfl (hQ _ ⟨_, rfl, fun _ => (twk_b.2 (show a0.toInt = 13 by omega)).1 (by omega)⟩ )
    · have t51 := ne_no c49
      refine ur_ldI rfl rfl ?_
      refine ur_if1 rfl (fun c52 => ?_) (fun c52 => ?_)
      · have t53 := eq_to c52
        refine ur_push rfl ?_
        exact ur_ret rfl rfl (hQ _ ⟨_, rfl, fun _ => (twk_b.2 (show a0.toInt = 13 by omega)).2 (by omega)⟩ )
      · have t54 := eq_no c52
        refine ur_push rfl ?_
        refine ur_go rfl ?_
        exact ur_ret rfl rfl (hQ _ ⟨_, rfl, fun _ => (twk_b.2 (show a0.toInt = 13 by omega)).1 (by omega)⟩ )

set_option maxRecDepth 20000 in
set_option maxHeartbeats 4000000 in
theorem st_X9_valueWith {d kc ks : Nat} {h0 : aH} {Q : Option aV → aH → Prop} {ls : List (List (Int × Int) × List (Int × Int))} {u : List Int} (hO0 : OK h0) {a0 : Nat} (t0 : tg h0 a0 = (109, 2)) {a1 : Nat} (t1 : tg h0 a1 = (0, 10)) {a2 : Nat} (t2 : tg h0 a2 = (0, 64)) (w2 : scA a2 = true) (r2 : rng a2 = (-2147483648, 2147483647)) (pre0 : txC h0 a0 = u) (pre1 : u = cfl 0 ls) (pre2 : a0 ∈ TXQ) (pre3 : ∀ l ∈ ls, lnG l) (hQ : ∀ r h', (∃ x : Int32, r = some (.inl x) ∧ (x = tvl (nuC h0 a1) ls)) → OK h' → un [] h0 h' → Q r h') : uCall Mt (d + 2) 112 [(.inr (.inr (some a0))), (.inr (.inr (some a1))), (.inr (.inr (some a2)))] h0 kc ks Q := by
  have l_m1 : ((-1) : Int32).toInt = -1 := by decide
  have l_0 : ((0) : Int32).toInt = 0 := by decide
  have l_1 : ((1) : Int32).toInt = 1 := by decide
  have l_4 : ((4) : Int32).toInt = 4 := by decide
  have l_15 : ((15) : Int32).toInt = 15 := by decide
  refine uc_ink [some (.inr (.inr (some a0))), some (.inr (.inr (some a1))), some (.inr (.inr (some a2))), none, none, none, none, none] mt_112 (Nat.le_of_ble_eq_true rfl) rfl ?_
  obtain ⟨g5, f2, hc1, k3, k4⟩ := hO0.text t0
  have t6 := fO_of (k := 1) hc1 rfl
  refine ur_push rfl ?_
  refine ur_svIk [some (.inr (.inr (some a0))), some (.inr (.inr (some a1))), some (.inr (.inr (some a2))), some (.inl (-1)), none, none, none, none] rfl rfl ?_
  refine ur_push rfl ?_
  refine ur_svIk [some (.inr (.inr (some a0))), some (.inr (.inr (some a1))), some (.inr (.inr (some a2))), some (.inl (-1)), some (.inl 0), none, none, none] rfl rfl ?_
  have L12 : ∀ (m13 : Nat) (x7 : Int32) (x8 : Int32) (u9 : Option aV) (u10 : Option aV) (u11 : Option aV) (h15 : aH) , OK h15 → un [] h0 h15 → ((-1 ≤ x7.toInt ∧ x7.toInt ≤ 63) ∧ (0 ≤ x8.toInt ∧ x8.toInt ≤ 200000000)) → (VS u (nuC h0 a1) (tvl (nuC h0 a1) ls) (arI h15 a2) x7.toInt x8.toInt) → (txC h15 a0 = txC h0 a0) → (arI h15 a1 = arI h0 a1) → ((129 - x8.toInt).toNat) < m13 → uRun oX9_valueWith (uCall Mt (d + 1)) Q 5 ([some (.inr (.inr (some a0))), some (.inr (.inr (some a1))), some (.inr (.inr (some a2))), some (.inl x7), some (.inl x8), u9, u10, u11], [], h15, kc, ks) := by
    intro m13
    induction m13 with
    | zero => intro x7 x8 u9 u10 u11 h15 hO15 hu15 iv19 px16 px17 px18 mm20; omega
    | succ m13 ih14 =>
      intro x7 x8 u9 u10 u11 h15 hO15 hu15 iv19 px16 px17 px18 mm20
      obtain ⟨g25, f22, hc21, k23, k24⟩ := hO15.text (hu15.tm t0 (by decide))
      have t26 := fO_of (k := 1) hc21 rfl
      obtain ⟨xs28, hc27, hn29, he30⟩ := hO15.int (hu15.tm t2 (by decide))
      obtain ⟨xs32, hc31, hn33, he34⟩ := hO15.int k23
      refine ur_ldI rfl rfl ?_
      refine ur_ldA rfl rfl ?_
      refine ur_get rfl hc21 rfl ?_
      have z35 := any_r x8
      have z36 := any_r f22
      refine ur_if2 rfl (fun c37 => ?_) (fun c37 => ?_)
      · have t38 := le_to c37
        refine ur_push rfl ?_
        exact ur_ret rfl rfl (hQ _ _ ⟨_, rfl, (px16.e (by rw [tx_len hc31 hn33 px17 pre0 (by omega)]; omega)).symm⟩ hO15 hu15)
      · have t39 := le_no c37
        refine ur_ldA rfl rfl ?_
        refine ur_get rfl hc21 rfl ?_
        refine ur_ldI rfl rfl ?_
        refine ur_aldV rfl hc31 hn33 (by omega) (fun x40 hx41 => ?_)
        have hu942 := tx_at hc31 hx41 px17 pre0 (by omega)
        refine ur_push rfl ?_
        refine ur_binV rfl (fun x43 e44 => ?_)
        have t45 := and_15 e44
        have t46 := and_15x e44
        refine ur_svIk [some (.inr (.inr (some a0))), some (.inr (.inr (some a1))), some (.inr (.inr (some a2))), some (.inl x7), some (.inl x8), some (.inl x43), u10, u11] rfl rfl ?_
        refine ur_ldA rfl rfl ?_
        refine ur_get rfl hc21 rfl ?_
        refine ur_ldI rfl rfl ?_
        refine ur_aldV rfl hc31 hn33 (by omega) (fun x47 hx48 => ?_)
        obtain rfl : x40 = x47 := Option.some.inj (hx41.symm.trans hx48)
        refine ur_push rfl ?_
        refine ur_binV rfl (fun x49 e50 => ?_)
        have z51 := any_r x40
        have t52 := shr_4 e50
        refine ur_svIk [some (.inr (.inr (some a0))), some (.inr (.inr (some a1))), some (.inr (.inr (some a2))), some (.inl x7), some (.inl x8), some (.inl x43), some (.inl x49), u11] rfl rfl ?_
        refine ur_ldI rfl rfl ?_
        refine ur_if1 rfl (fun c53 => ?_) (fun c53 => ?_)
        · have t54 := eq_to c53
          have t55 := px16.p hu942 (by omega)
          refine ur_ldI rfl rfl ?_
          refine ur_push rfl ?_
          refine ur_binV rfl (fun x56 e57 => ?_)
          have z58 := any_r x7
          have t59 := ti_add e57 (by omega) (by omega)
          refine ur_ldA rfl rfl ?_
          refine ur_lenV (m := 64) rfl hc27 hn29 (by decide) (fun x60 t61 => ?_)
          have z62 := any_r x56
          have z63 := any_r x60
          refine ur_if2 rfl (fun c64 => ?_) (fun c64 => ?_)
          · have t65 := le_to c64
            exfalso
            omega
          · have t66 := le_no c64
            refine ur_ldI rfl rfl ?_
            refine ur_if1 rfl (fun c67 => ?_) (fun c67 => ?_)
            · have t68 := le_to c67
              refine ur_incV (fun z => [some (.inr (.inr (some a0))), some (.inr (.inr (some a1))), some (.inr (.inr (some a2))), some (.inl z), some (.inl x8), some (.inl x43), some (.inl x49), u11]) rfl rfl (fun _ => rfl) (fun x69 e70 => ?_)
              have t71 := ti_add e70 (by omega) (by omega)
              refine ur_ldA rfl rfl ?_
              refine ur_ldI rfl rfl ?_
              refine ur_ldI rfl rfl ?_
              refine ur_if1 rfl (fun c72 => ?_) (fun c72 => ?_)
              · have t73 := ne_to c72
                exfalso
                omega
              · have t74 := ne_no c72
                refine ur_ldI rfl rfl ?_
                refine ur_go rfl ?_
                refine ur_astV (W := []) (m := 64) rfl hO15 hc27 (by decide) hn29 (by omega) (any_w r2 _) (Or.inl w2) (fun h77 hO77 hu77 d75 hc76 => ?_)
                have w78 : wI h15 h77 a2 ((arI h15 a2).set (x69 : Int32).toInt.toNat x49) := ⟨by rw [arI_of hc76, arI_of hc27], d75⟩
                refine ur_go rfl ?_
                refine ur_incV (fun z => [some (.inr (.inr (some a0))), some (.inr (.inr (some a1))), some (.inr (.inr (some a2))), some (.inl x69), some (.inl z), some (.inl x43), some (.inl x49), u11]) rfl rfl (fun _ => rfl) (fun x79 e80 => ?_)
                have t81 := ti_add e80 (by omega) (by omega)
                refine ur_go rfl ?_
                have t82 := fO_of (k := 1) ((d75 _ (ne_tg (hu77.tm (hu15.tm t0 (by decide)) (by decide)) (hu77.tm (hu15.tm t2 (by decide)) (by decide)) (by decide))).trans hc21) rfl
                have z83 := any_r x69
                have z84 := any_r x79
                exact ih14 x69 x79 _ _ _ _ hO77 (hu15.tr hu77) (by omega) (px16.k0 hu942 (by omega) (by omega) (ln_of hc27 hn29) w78.1 (by omega) (by omega) (by omega)) ((txC_un hO15 hO77 hu77 (by decide) _ pre2).trans px17) ((w78.oI (ne_tg (hu15.tm t1 (by decide)) (hu15.tm t2 (by decide)) (by decide))).trans px18) (by omega)
            · have t85 := le_no c67
              exfalso
              omega
        · have t86 := eq_no c53
          refine ur_ldI rfl rfl ?_
          refine ur_push rfl ?_
          refine ur_if2 rfl (fun c87 => ?_) (fun c87 => ?_)
          · have t88 := ne_to c87
            have t89 := px16.n hu942 (by omega)
            refine ur_ldI rfl rfl ?_
            refine ur_if1 rfl (fun c90 => ?_) (fun c90 => ?_)
            · have t91 := le_to c90
              refine ur_ldA rfl rfl ?_
              refine ur_ldI rfl rfl ?_
              refine ur_aldV rfl hc27 hn29 (by omega) (fun x92 hx93 => ?_)
              refine ur_svIk [some (.inr (.inr (some a0))), some (.inr (.inr (some a1))), some (.inr (.inr (some a2))), some (.inl x7), some (.inl x8), some (.inl x43), some (.inl x49), some (.inl x92)] rfl rfl ?_
              refine ur_ldI rfl rfl ?_
              rcases (show x43.toInt = 2 ∨ x43.toInt = 3 ∨ x43.toInt = 14 ∨ x43.toInt = 15 ∨ (x43.toInt ≠ 2 ∧ x43.toInt ≠ 3 ∧ x43.toInt ≠ 14 ∧ x43.toInt ≠ 15) by omega) with t94 | t94 | t94 | t94 | t94
              · refine ur_swi (t := 152) rfl (by rw [t94]; rfl) ?_
                refine ur_ldA rfl rfl ?_
                refine ur_ldI rfl rfl ?_
                refine ur_ldI rfl rfl ?_
                refine ur_if1 rfl (fun c95 => ?_) (fun c95 => ?_)
                · have t96 := ne_to c95
                  refine ur_push rfl ?_
                  refine ur_astV (W := []) (m := 64) rfl hO15 hc27 (by decide) hn29 (by omega) (any_w r2 _) (Or.inl w2) (fun h99 hO99 hu99 d97 hc98 => ?_)
                  have w100 : wI h15 h99 a2 ((arI h15 a2).set (x7 : Int32).toInt.toNat 0) := ⟨by rw [arI_of hc98, arI_of hc27], d97⟩
                  refine ur_go rfl ?_
                  refine ur_incV (fun z => [some (.inr (.inr (some a0))), some (.inr (.inr (some a1))), some (.inr (.inr (some a2))), some (.inl x7), some (.inl z), some (.inl x43), some (.inl x49), some (.inl x92)]) rfl rfl (fun _ => rfl) (fun x101 e102 => ?_)
                  have t103 := ti_add e102 (by omega) (by omega)
                  refine ur_go rfl ?_
                  have t104 := fO_of (k := 1) ((d97 _ (ne_tg (hu99.tm (hu15.tm t0 (by decide)) (by decide)) (hu99.tm (hu15.tm t2 (by decide)) (by decide)) (by decide))).trans hc21) rfl
                  have z105 := any_r x7
                  have z106 := any_r x101
                  exact ih14 x7 x101 _ _ _ _ hO99 (hu15.tr hu99) (by omega) (px16.k2 hu942 (by omega) (arL_at hc27 hx93) (if_neg (nz_of9 (by omega))).symm (ln_of hc27 hn29) w100.1 (by omega) (by omega) (by omega)) ((txC_un hO15 hO99 hu99 (by decide) _ pre2).trans px17) ((w100.oI (ne_tg (hu15.tm t1 (by decide)) (hu15.tm t2 (by decide)) (by decide))).trans px18) (by omega)
                · have t107 := ne_no c95
                  refine ur_push rfl ?_
                  refine ur_go rfl ?_
                  refine ur_astV (W := []) (m := 64) rfl hO15 hc27 (by decide) hn29 (by omega) (any_w r2 _) (Or.inl w2) (fun h110 hO110 hu110 d108 hc109 => ?_)
                  have w111 : wI h15 h110 a2 ((arI h15 a2).set (x7 : Int32).toInt.toNat 1) := ⟨by rw [arI_of hc109, arI_of hc27], d108⟩
                  refine ur_go rfl ?_
                  refine ur_incV (fun z => [some (.inr (.inr (some a0))), some (.inr (.inr (some a1))), some (.inr (.inr (some a2))), some (.inl x7), some (.inl z), some (.inl x43), some (.inl x49), some (.inl x92)]) rfl rfl (fun _ => rfl) (fun x112 e113 => ?_)
                  have t114 := ti_add e113 (by omega) (by omega)
                  refine ur_go rfl ?_
                  have t115 := fO_of (k := 1) ((d108 _ (ne_tg (hu110.tm (hu15.tm t0 (by decide)) (by decide)) (hu110.tm (hu15.tm t2 (by decide)) (by decide)) (by decide))).trans hc21) rfl
                  have z116 := any_r x7
                  have z117 := any_r x112
                  exact ih14 x7 x112 _ _ _ _ hO110 (hu15.tr hu110) (by omega) (px16.k2 hu942 (by omega) (arL_at hc27 hx93) (if_pos (z_of (by omega))).symm (ln_of hc27 hn29) w111.1 (by omega) (by omega) (by omega)) ((txC_un hO15 hO110 hu110 (by decide) _ pre2).trans px17) ((w111.oI (ne_tg (hu15.tm t1 (by decide)) (hu15.tm t2 (by decide)) (by decide))).trans px18) (by omega)
              · refine ur_swi (t := 168) rfl (by rw [t94]; rfl) ?_
                refine ur_ldA rfl rfl ?_
                refine ur_ldI rfl rfl ?_
                refine ur_ldI rfl rfl ?_
                refine ur_unV rfl (fun x118 e119 => ?_)
                have z120 := any_r x92
                refine ur_astV (W := []) (m := 64) rfl hO15 hc27 (by decide) hn29 (by omega) (any_w r2 _) (Or.inl w2) (fun h123 hO123 hu123 d121 hc122 => ?_)
                have w124 : wI h15 h123 a2 ((arI h15 a2).set (x7 : Int32).toInt.toNat x118) := ⟨by rw [arI_of hc122, arI_of hc27], d121⟩
                refine ur_go rfl ?_
                refine ur_incV (fun z => [some (.inr (.inr (some a0))), some (.inr (.inr (some a1))), some (.inr (.inr (some a2))), some (.inl x7), some (.inl z), some (.inl x43), some (.inl x49), some (.inl x92)]) rfl rfl (fun _ => rfl) (fun x125 e126 => ?_)
                have t127 := ti_add e126 (by omega) (by omega)
                refine ur_go rfl ?_
                have t128 := fO_of (k := 1) ((d121 _ (ne_tg (hu123.tm (hu15.tm t0 (by decide)) (by decide)) (hu123.tm (hu15.tm t2 (by decide)) (by decide)) (by decide))).trans hc21) rfl
                have z129 := any_r x7
                have z130 := any_r x125
                exact ih14 x7 x125 _ _ _ _ hO123 (hu15.tr hu123) (by omega) (px16.k3 hu942 (by omega) (arL_at hc27 hx93) e119.symm (ln_of hc27 hn29) w124.1 (by omega) (by omega) (by omega)) ((txC_un hO15 hO123 hu123 (by decide) _ pre2).trans px17) ((w124.oI (ne_tg (hu15.tm t1 (by decide)) (hu15.tm t2 (by decide)) (by decide))).trans px18) (by omega)
              · refine ur_swi (t := 177) rfl (by rw [t94]; rfl) ?_
                refine ur_incV (fun z => [some (.inr (.inr (some a0))), some (.inr (.inr (some a1))), some (.inr (.inr (some a2))), some (.inl z), some (.inl x8), some (.inl x43), some (.inl x49), some (.inl x92)]) rfl rfl (fun _ => rfl) (fun x131 e132 => ?_)
                have z133 := any_r x7
                have t134 := ti_add e132 (by omega) (by omega)
                refine ur_ldI rfl rfl ?_
                refine ur_if1 rfl (fun c135 => ?_) (fun c135 => ?_)
                · have t136 := ne_to c135
                  refine ur_incV (fun z => [some (.inr (.inr (some a0))), some (.inr (.inr (some a1))), some (.inr (.inr (some a2))), some (.inl x131), some (.inl z), some (.inl x43), some (.inl x49), some (.inl x92)]) rfl rfl (fun _ => rfl) (fun x137 e138 => ?_)
                  have t139 := ti_add e138 (by omega) (by omega)
                  refine ur_go rfl ?_
                  have z140 := any_r x131
                  have z141 := any_r x137
                  exact ih14 x131 x137 _ _ _ _ hO15 hu15 (by omega) (px16.kn (p' := x137.toInt) hu942 (by omega) (arL_at hc27 hx93) (nz_of9 (by omega)) (by omega) (by omega) (by omega)) px17 px18 (by omega)
                · have t142 := ne_no c135
                  have t143 := (px16.wn hu942 (by omega) (arL_at hc27 hx93)).2.1 (z_of (by omega))
                  refine ur_ldI rfl rfl ?_
                  refine ur_ldI rfl rfl ?_
                  refine ur_push rfl ?_
                  refine ur_binV rfl (fun x144 e145 => ?_)
                  have z146 := any_r x49
                  have t147 := ti_sub e145 (by omega) (by omega)
                  refine ur_maxV rfl (by show ¬ 9 ≤ 2; decide) (fun x148 t149 e150 => ?_)
                  refine ur_svIk [some (.inr (.inr (some a0))), some (.inr (.inr (some a1))), some (.inr (.inr (some a2))), some (.inl x131), some (.inl x148), some (.inl x43), some (.inl x49), some (.inl x92)] rfl rfl ?_
                  refine ur_go rfl ?_
                  refine ur_incV (fun z => [some (.inr (.inr (some a0))), some (.inr (.inr (some a1))), some (.inr (.inr (some a2))), some (.inl x131), some (.inl z), some (.inl x43), some (.inl x49), some (.inl x92)]) rfl rfl (fun _ => rfl) (fun x151 e152 => ?_)
                  have z153 := any_r x148
                  have t154 := ti_add e152 (by omega) (by omega)
                  refine ur_go rfl ?_
                  have z155 := any_r x131
                  have z156 := any_r x151
                  exact ih14 x131 x151 _ _ _ _ hO15 hu15 (by omega) (px16.kz (p' := x151.toInt) hu942 (by omega) (arL_at hc27 hx93) (z_of (by omega)) (by omega) (by omega) (by omega)) px17 px18 (by omega)
              · refine ur_swi (t := 199) rfl (by rw [t94]; rfl) ?_
                refine ur_ldI rfl rfl ?_
                exact ur_ret rfl rfl (hQ _ _ ⟨_, rfl, px16.r hu942 (by omega) (arL_at hc27 hx93)⟩ hO15 hu15)
              · refine ur_swi (t := 202) rfl (Eq.trans (congrArg (fun z => ((110 : Nat) : Int) + z) (show Op.lookupswitch.offset [(2, 42), (3, 58), (14, 67), (15, 89)] 92 x43.toInt = 92 by simp only [Op.lookupswitch.offset_cons, Op.lookupswitch.offset_nil]; rw [if_neg (show ¬ ((2) : Int) = x43.toInt by omega), if_neg (show ¬ ((3) : Int) = x43.toInt by omega), if_neg (show ¬ ((14) : Int) = x43.toInt by omega), if_neg (show ¬ ((15) : Int) = x43.toInt by omega)])) rfl) ?_
                have t157 := px16.b hu942 (by omega)
                refine ur_ldI rfl rfl ?_
                refine ur_push rfl ?_
                refine ur_if2 rfl (fun c158 => ?_) (fun c158 => ?_)
                · have t159 := le_to c158
                  refine ur_incV (fun z => [some (.inr (.inr (some a0))), some (.inr (.inr (some a1))), some (.inr (.inr (some a2))), some (.inl z), some (.inl x8), some (.inl x43), some (.inl x49), some (.inl x92)]) rfl rfl (fun _ => rfl) (fun x160 e161 => ?_)
                  have z162 := any_r x7
                  have t163 := ti_add e161 (by omega) (by omega)
                  refine ur_ldA rfl rfl ?_
                  refine ur_ldI rfl rfl ?_
                  refine ur_ldI rfl rfl ?_
                  refine ur_ldA rfl rfl ?_
                  refine ur_ldI rfl rfl ?_
                  refine ur_aldV rfl hc27 hn29 (by omega) (fun x164 hx165 => ?_)
                  refine ur_ldI rfl rfl ?_
                  refine ur_inl rfl rfl (Nat.le_of_ble_eq_true rfl) (Nat.le_of_ble_eq_true rfl) (st_X9_joined _ _ _ (fun w166 hr167 => ?_))
                  obtain ⟨x168, rfl, f169⟩ := hr167
                  show uRun _ (uCall Mt _) _ 224 (_, [(.inl x168), (.inl x160), (.inr (.inr (some a2)))], _, _, _)
                  refine ur_astV (W := []) (m := 64) rfl hO15 hc27 (by decide) hn29 (by omega) (any_w r2 _) (Or.inl w2) (fun h172 hO172 hu172 d170 hc171 => ?_)
                  have w173 : wI h15 h172 a2 ((arI h15 a2).set (x160 : Int32).toInt.toNat x168) := ⟨by rw [arI_of hc171, arI_of hc27], d170⟩
                  refine ur_incV (fun z => [some (.inr (.inr (some a0))), some (.inr (.inr (some a1))), some (.inr (.inr (some a2))), some (.inl x160), some (.inl z), some (.inl x43), some (.inl x49), some (.inl x92)]) rfl rfl (fun _ => rfl) (fun x174 e175 => ?_)
                  have t176 := ti_add e175 (by omega) (by omega)
                  refine ur_go rfl ?_
                  have t177 := fO_of (k := 1) ((d170 _ (ne_tg (hu172.tm (hu15.tm t0 (by decide)) (by decide)) (hu172.tm (hu15.tm t2 (by decide)) (by decide)) (by decide))).trans hc21) rfl
                  have z178 := any_r x160
                  have z179 := any_r x174
                  exact ih14 x160 x174 _ _ _ _ hO172 (hu15.tr hu172) (by omega) (px16.kb (k := x43.toInt) hu942 ⟨by omega, by omega, by omega⟩ (arL_at hc27 hx93) (arL_at hc27 hx165) (f169 (by omega)) (ln_of hc27 hn29) w173.1 (by omega) (by omega) (by omega)) ((txC_un hO15 hO172 hu172 (by decide) _ pre2).trans px17) ((w173.oI (ne_tg (hu15.tm t1 (by decide)) (hu15.tm t2 (by decide)) (by decide))).trans px18) (by omega)
                · have t180 := le_no c158
                  exfalso
                  omega
            · have t181 := le_no c90
              exfalso
              omega
          · have t182 := ne_no c87
            have t183 := px16.p hu942 (by omega)
            refine ur_ldI rfl rfl ?_
            refine ur_push rfl ?_
            refine ur_binV rfl (fun x184 e185 => ?_)
            have z186 := any_r x7
            have t187 := ti_add e185 (by omega) (by omega)
            refine ur_ldA rfl rfl ?_
            refine ur_lenV (m := 64) rfl hc27 hn29 (by decide) (fun x188 t189 => ?_)
            have z190 := any_r x184
            have z191 := any_r x188
            refine ur_if2 rfl (fun c192 => ?_) (fun c192 => ?_)
            · have t193 := le_to c192
              exfalso
              omega
            · have t194 := le_no c192
              refine ur_ldI rfl rfl ?_
              refine ur_if1 rfl (fun c195 => ?_) (fun c195 => ?_)
              · have t196 := le_to c195
                refine ur_incV (fun z => [some (.inr (.inr (some a0))), some (.inr (.inr (some a1))), some (.inr (.inr (some a2))), some (.inl z), some (.inl x8), some (.inl x43), some (.inl x49), u11]) rfl rfl (fun _ => rfl) (fun x197 e198 => ?_)
                have t199 := ti_add e198 (by omega) (by omega)
                refine ur_ldA rfl rfl ?_
                refine ur_ldI rfl rfl ?_
                refine ur_ldI rfl rfl ?_
                refine ur_if1 rfl (fun c200 => ?_) (fun c200 => ?_)
                · have t201 := ne_to c200
                  refine ur_ldI rfl rfl ?_
                  refine ur_ldA rfl rfl ?_
                  obtain ⟨xs203, hc202, hn204, he205⟩ := hO15.int (hu15.tm t1 (by decide))
                  refine ur_lenV (m := 10) rfl hc202 hn204 (by decide) (fun x206 t207 => ?_)
                  have z208 := any_r x49
                  have z209 := any_r x206
                  refine ur_if2 rfl (fun c210 => ?_) (fun c210 => ?_)
                  · have t211 := le_to c210
                    exfalso
                    omega
                  · have t212 := le_no c210
                    refine ur_ldA rfl rfl ?_
                    refine ur_ldI rfl rfl ?_
                    refine ur_aldV rfl hc202 hn204 (by omega) (fun x213 hx214 => ?_)
                    refine ur_go rfl ?_
                    refine ur_astV (W := []) (m := 64) rfl hO15 hc27 (by decide) hn29 (by omega) (any_w r2 _) (Or.inl w2) (fun h217 hO217 hu217 d215 hc216 => ?_)
                    have w218 : wI h15 h217 a2 ((arI h15 a2).set (x197 : Int32).toInt.toNat x213) := ⟨by rw [arI_of hc216, arI_of hc27], d215⟩
                    refine ur_go rfl ?_
                    refine ur_incV (fun z => [some (.inr (.inr (some a0))), some (.inr (.inr (some a1))), some (.inr (.inr (some a2))), some (.inl x197), some (.inl z), some (.inl x43), some (.inl x49), u11]) rfl rfl (fun _ => rfl) (fun x219 e220 => ?_)
                    have t221 := ti_add e220 (by omega) (by omega)
                    refine ur_go rfl ?_
                    have t222 := fO_of (k := 1) ((d215 _ (ne_tg (hu217.tm (hu15.tm t0 (by decide)) (by decide)) (hu217.tm (hu15.tm t2 (by decide)) (by decide)) (by decide))).trans hc21) rfl
                    have z223 := any_r x197
                    have z224 := any_r x219
                    exact ih14 x197 x219 _ _ _ _ hO217 (hu15.tr hu217) (by omega) (px16.k1 hu942 (by omega) (nuC_e hc202 hx214 px18 (by omega)) (ln_of hc27 hn29) w218.1 (by omega) (by omega) (by omega)) ((txC_un hO15 hO217 hu217 (by decide) _ pre2).trans px17) ((w218.oI (ne_tg (hu15.tm t1 (by decide)) (hu15.tm t2 (by decide)) (by decide))).trans px18) (by omega)
                · have t225 := ne_no c200
                  exfalso
                  omega
              · have t226 := le_no c195
                exfalso
                omega
  exact L12 _ (-1) 0 (none) (none) (none) _ hO0 un.rf (by omega) (VS.z pre1 pre3 rfl (by omega) (by omega)) rfl rfl (Nat.lt_succ_self _)
end EVC
