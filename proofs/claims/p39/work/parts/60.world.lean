/-! THE WORLD: what every cell is, whatever calls came; what a method may change -/
section WLD
def tgC (c : aC) : Nat × Nat := match c with
  | .inl o => (100 + o.1, o.2.length)
  | .inr x => (x.1, aLen x.2)
def tg (h : aH) (a : Nat) : Nat × Nat := match h[a]? with
  | some c => tgC c
  | none => (999, 0)
theorem tg_of {h : aH} {a : Nat} {c : aC} (ha : h[a]? = some c) : tg h a = tgC c := by
  unfold tg
  rw [ha]
theorem tg_set {h : aH} {a : Nat} {c c' : aC} (ha : h[a]? = some c) (ht : tgC c' = tgC c) : tg (h.set a c') = tg h := by
  funext b
  unfold tg
  by_cases q : a = b
  · subst q
    rw [List.getElem?_set_self (List.getElem?_eq_some_iff.mp ha).1, ha]
    exact ht
  · rw [List.getElem?_set_ne q]
def T0 : List (Nat × Nat) := [(111, 8), (106, 5), (0, 4), (0, 4), (5, 12), (108, 6), (0, 120), (0, 128), (105, 5), (109, 2), (0, 128), (109, 2), (0, 128), (0, 10), (0, 64), (101, 11), (7, 150), (0, 20), (0, 20), (6, 9), (0, 10), (0, 64), (3, 150), (109, 2), (0, 128), (109, 2), (0, 128), (109, 2), (0, 128), (109, 2), (0, 128), (109, 2), (0, 128), (109, 2), (0, 128), (109, 2), (0, 128), (109, 2), (0, 128), (109, 2), (0, 128), (107, 15), (0, 10), (0, 10), (0, 10), (4, 36), (0, 12), (0, 242), (0, 242), (3, 81), (0, 81), (0, 121), (103, 3), (0, 5), (0, 5), (100, 2), (0, 24), (104, 5), (0, 6), (0, 6), (0, 6), (0, 6), (8, 6), (4, 60), (4, 60), (4, 60), (4, 60), (4, 60), (4, 60), (112, 69), (0, 4), (0, 4), (0, 12), (0, 12), (0, 12), (0, 12), (0, 12), (0, 12), (0, 12), (0, 12), (0, 1452), (3, 12), (1, 120), (1, 1560), (0, 1560), (0, 12), (2, 732), (2, 732), (0, 10), (0, 130), (0, 20), (0, 20), (0, 20), (0, 10), (0, 10), (0, 10), (0, 150), (0, 150), (0, 150), (0, 150), (0, 150), (0, 150), (0, 150), (0, 150), (3, 150), (0, 150), (0, 12), (0, 5), (0, 5), (0, 24), (0, 6), (0, 6), (4, 360), (4, 60)]
theorem T0_F : hF.map tgC = T0 := by decide +kernel
/-- what the elements of an array lie between -/
def rng (a : Nat) : Int × Int := match a with
  | 3 => (0, 60)
  | 42 => (0, 8)
  | 43 => (0, 999999)
  | 44 => (0, 999999)
  | 51 => (-60, 60)
  | 61 => (0, 60)
  | 71 => (0, 60)
  | 72 => (0, 999999)
  | 75 => (0, 99)
  | 78 => (-1, 11)
  | 80 => (-1, 999999)
  | 83 => (0, 124)
  | 85 => (0, 61)
  | 86 => (0, 130)
  | 87 => (0, 130)
  | 95 => (0, 999999)
  | 96 => (0, 7)
  | 97 => (0, 8)
  | 101 => (-1, 19)
  | 103 => (-1, 149)
  | 110 => (-6, 149)
  | 111 => (0, 60)
  | _ => (-2147483648, 2147483647)
def elR (a : Nat) (xs : List Int32) : Prop := ∀ (i : Nat) y, xs[i]? = some y → (rng a).1 ≤ y.toInt ∧ y.toInt ≤ (rng a).2
/-- an object, by its class -/
def shO (τ : Nat → Nat × Nat) (a ci : Nat) (fs : List aV) : Prop := match ci with
  | 0 => a = 55 ∧ ∃ ran : Int32, fs = [.inr (.inr (some 56)), .inl ran] ∧ 0 ≤ ran.toInt ∧ ran.toInt ≤ 100000000
  | 1 => a = 15 ∧ ∃ n y m dd : Int32, fs = [.inr (.inr (some 16)), .inl n, .inl y, .inl m, .inl dd, .inr (.inr (some 17)), .inr (.inr (some 18)), .inr (.inr (some 19)), .inr (.inr (some 20)), .inr (.inr (some 21)), .inr (.inr (some 22))] ∧ 0 ≤ n.toInt ∧ n.toInt ≤ 150
  | 2 => 114 ≤ a ∧ ∃ (p s nd rc w b pa bo f l : Int32) (q1 q2 : Nat) (sg : Option Nat) (q3 : Nat), fs = [.inl p, .inl s, .inl nd, .inl rc, .inl w, .inl b, .inl pa, .inl bo, .inl f, .inl l, .inr (.inr (some q1)), .inr (.inr (some q2)), .inr (.inr sg), .inr (.inr (some q3))] ∧ (114 ≤ q1 ∧ τ q1 = (0, 121)) ∧ (114 ≤ q2 ∧ τ q2 = (0, 241)) ∧ (∀ z, sg = some z → 114 ≤ z ∧ τ z = (4, 8712)) ∧ (114 ≤ q3 ∧ τ q3 = (0, 9)) ∧ -60 ≤ f.toInt ∧ f.toInt ≤ 0 ∧ 0 ≤ l.toInt ∧ l.toInt ≤ 60
  | 3 => a = 52 ∧ ∃ n : Int32, fs = [.inr (.inr (some 53)), .inr (.inr (some 54)), .inl n] ∧ 0 ≤ n.toInt ∧ n.toInt ≤ 5
  | 4 => a = 57 ∧ fs = [.inr (.inr (some 58)), .inr (.inr (some 59)), .inr (.inr (some 60)), .inr (.inr (some 61)), .inr (.inr (some 62))] ∧ True
  | 5 => a = 8 ∧ ∃ v : Int32, fs = [.inr (.inr (some 9)), .inr (.inr (some 11)), .inr (.inr (some 13)), .inr (.inr (some 14)), .inl v] ∧ True
  | 6 => a = 1 ∧ ∃ g n : Int32, fs = [.inr (.inr (some 2)), .inr (.inr (some 3)), .inl g, .inr (.inr (some 4)), .inl n] ∧ 0 ≤ g.toInt ∧ g.toInt ≤ 4 ∧ 0 ≤ n.toInt ∧ n.toInt ≤ 12
  | 7 => a = 41 ∧ ∃ n nc : Int32, fs = [.inr (.inr (some 1)), .inr (.inr (some 15)), .inr (.inr (some 8)), .inr (.inr (some 42)), .inr (.inr (some 43)), .inr (.inr (some 44)), .inl n, .inr (.inr (some 45)), .inr (.inr (some 46)), .inr (.inr (some 47)), .inr (.inr (some 48)), .inr (.inr (some 49)), .inr (.inr (some 50)), .inr (.inr (some 51)), .inl nc] ∧ 0 ≤ n.toInt ∧ n.toInt ≤ 10 ∧ 0 ≤ nc.toInt ∧ nc.toInt ≤ 121
  | 8 => a = 5 ∧ ∃ n att fa len : Int32, fs = [.inr (.inr (some 6)), .inl n, .inl att, .inl fa, .inr (.inr (some 7)), .inl len] ∧ 0 ≤ n.toInt ∧ n.toInt ≤ 120 ∧ 0 ≤ len.toInt ∧ len.toInt ≤ 128
  | 9 => a < 114 ∧ ∃ l : Int32, fs = [.inr (.inr (some (a + 1))), .inl l] ∧ τ (a + 1) = (0, 128) ∧ 0 ≤ l.toInt ∧ l.toInt ≤ 128
  | 10 => 114 ≤ a ∧ ∃ (nu ki pe re sl y m dd mo : Int32) (cr : Option Nat) (sp mi om : Int32), fs = [.inl nu, .inl ki, .inl pe, .inl re, .inl sl, .inl y, .inl m, .inl dd, .inl mo, .inr (.inr cr), .inl sp, .inl mi, .inl om] ∧ (∀ z, cr = some z → 114 ≤ z ∧ τ z = (110, 13)) ∧ 0 ≤ nu.toInt ∧ nu.toInt ≤ 149 ∧ 0 ≤ ki.toInt ∧ ki.toInt ≤ 7 ∧ 0 ≤ pe.toInt ∧ pe.toInt ≤ 8 ∧ -1 ≤ re.toInt ∧ re.toInt ≤ 19
  | 11 => a = 0 ∧ fs = [.inr (.inr (some 1)), .inr (.inr (some 5)), .inr (.inr (some 8)), .inr (.inr (some 15)), .inr (.inr (some 41)), .inr (.inr (some 52)), .inr (.inr (some 55)), .inr (.inr (some 57))] ∧ True
  | 12 => a = 69 ∧ ∃ code greats comets degreeIs distanceIs eIs taped here fault opn laid watches words yearNow monthNow dayNow spanFirst spanLast lookFrom lookTo evenings drawn nextDay nextBy traces : Int32, fs = [.inl code, .inl greats, .inr (.inr (some 70)), .inr (.inr (some 71)), .inl comets, .inr (.inr (some 72)), .inr (.inr (some 73)), .inr (.inr (some 74)), .inr (.inr (some 75)), .inr (.inr (some 76)), .inr (.inr (some 77)), .inr (.inr (some 78)), .inr (.inr (some 79)), .inr (.inr (some 80)), .inr (.inr (some 81)), .inl degreeIs, .inl distanceIs, .inl eIs, .inr (.inr (some 82)), .inl taped, .inl here, .inl fault, .inl opn, .inl laid, .inr (.inr (some 83)), .inr (.inr (some 84)), .inr (.inr (some 85)), .inr (.inr (some 86)), .inr (.inr (some 87)), .inr (.inr (some 88)), .inr (.inr (some 89)), .inr (.inr (some 90)), .inr (.inr (some 91)), .inr (.inr (some 92)), .inl watches, .inr (.inr (some 93)), .inr (.inr (some 94)), .inr (.inr (some 95)), .inl words, .inr (.inr (some 96)), .inr (.inr (some 97)), .inr (.inr (some 98)), .inr (.inr (some 99)), .inr (.inr (some 100)), .inr (.inr (some 101)), .inr (.inr (some 102)), .inr (.inr (some 103)), .inl yearNow, .inl monthNow, .inl dayNow, .inl spanFirst, .inl spanLast, .inl lookFrom, .inl lookTo, .inr (.inr (some 104)), .inr (.inr (some 105)), .inr (.inr (some 106)), .inl evenings, .inr (.inr (some 107)), .inr (.inr (some 108)), .inl drawn, .inl nextDay, .inl nextBy, .inl traces, .inr (.inr (some 109)), .inr (.inr (some 110)), .inr (.inr (some 111)), .inr (.inr (some 112)), .inr (.inr (some 113))] ∧ 0 ≤ greats.toInt ∧ greats.toInt ≤ 4 ∧ 0 ≤ comets.toInt ∧ comets.toInt ≤ 12 ∧ 0 ≤ taped.toInt ∧ taped.toInt ≤ 120 ∧ 0 ≤ watches.toInt ∧ watches.toInt ≤ 10 ∧ 0 ≤ words.toInt ∧ words.toInt ≤ 150 ∧ 0 ≤ evenings.toInt ∧ evenings.toInt ≤ 5 ∧ 0 ≤ traces.toInt ∧ traces.toInt ≤ 1000000 ∧ 0 ≤ laid.toInt ∧ laid.toInt ≤ 130
  | _ => False
/-- an array, by its kind -/
def shA (τ : Nat → Nat × Nat) (a kd : Nat) (x : aArr) : Prop := match kd with
  | 0 => ∃ xs, x = .inl xs ∧ elR a xs
  | 1 => ∃ xs, x = .inl xs ∧ elR a xs
  | 2 => ∃ xs, x = .inl xs ∧ elR a xs
  | 3 => ∃ xs, x = .inl xs ∧ elR a xs
  | 4 => ∃ xs, x = .inr (.inl xs)
  | 5 => ∃ xs, x = .inr (.inr xs) ∧ ∀ (i : Nat) z, xs[i]? = some (some z) → 114 ≤ z ∧ τ z = (102, 14)
  | 6 => x = .inr (.inr [some 23, some 25, some 27, some 29, some 31, some 33, some 35, some 37, some 39])
  | 7 => ∃ xs, x = .inr (.inr xs) ∧ ∀ (i : Nat) z, xs[i]? = some (some z) → 114 ≤ z ∧ τ z = (110, 13)
  | 8 => x = .inr (.inr [some 63, some 64, some 65, some 66, some 67, some 68])
  | _ => False
def sh (τ : Nat → Nat × Nat) (a : Nat) (c : aC) : Prop := match c with
  | .inl o => shO τ a o.1 o.2
  | .inr x => shA τ a x.1 x.2
/-- the world: every cell is as it must be, the first 114 bear their tags -/
def OK (h : aH) : Prop := (∀ (a : Nat) c, h[a]? = some c → sh (tg h) a c) ∧ ∀ k, k < 114 → tg h k = T0.getD k (999, 0)
theorem shA_lt {τ : Nat → Nat × Nat} {a kd : Nat} {x : aArr} (h : shA τ a kd x) : kd < 9 := match kd, h with
  | 0, _ => by decide
  | 1, _ => by decide
  | 2, _ => by decide
  | 3, _ => by decide
  | 4, _ => by decide
  | 5, _ => by decide
  | 6, _ => by decide
  | 7, _ => by decide
  | 8, _ => by decide
  | n + 9, h => h.elim
theorem OK.obj {h : aH} (hO : OK h) {a ci n : Nat} (ht : tg h a = (100 + ci, n)) (hc : ci < 13) : ∃ fs, h[a]? = some (.inl (ci, fs)) ∧ fs.length = n ∧ shO (tg h) a ci fs := by
  unfold tg at ht
  cases hk : h[a]? with
  | none =>
    rw [hk] at ht
    have e := congrArg Prod.fst ht
    simp only [] at e
    omega
  | some c =>
    rw [hk] at ht
    have hs := hO.1 a c hk
    match c, ht, hs with
    | .inl (cj, fs), ht, hs =>
      have e := congrArg Prod.fst ht
      have e2 := congrArg Prod.snd ht
      simp only [tgC] at e e2
      have e3 : cj = ci := by omega
      subst e3
      exact ⟨fs, rfl, e2, hs⟩
    | .inr (kd, x), ht, hs =>
      have e := congrArg Prod.fst ht
      have l := shA_lt hs
      simp only [tgC] at e
      omega
theorem OK.arr {h : aH} (hO : OK h) {a kd n : Nat} (ht : tg h a = (kd, n)) (hc : kd < 9) : ∃ x, h[a]? = some (.inr (kd, x)) ∧ aLen x = n ∧ shA (tg h) a kd x := by
  unfold tg at ht
  cases hk : h[a]? with
  | none =>
    rw [hk] at ht
    have e := congrArg Prod.fst ht
    simp only [] at e
    omega
  | some c =>
    rw [hk] at ht
    have hs := hO.1 a c hk
    match c, ht, hs with
    | .inl (cj, fs), ht, hs =>
      have e := congrArg Prod.fst ht
      simp only [tgC] at e
      omega
    | .inr (kd', x), ht, hs =>
      have e := congrArg Prod.fst ht
      have e2 := congrArg Prod.snd ht
      simp only [tgC] at e e2
      have e3 : kd' = kd := e
      subst e3
      exact ⟨x, rfl, e2, hs⟩
theorem OK.set {h : aH} (hO : OK h) {a : Nat} {c c' : aC} (ha : h[a]? = some c) (ht : tgC c' = tgC c) (hs : sh (tg h) a c') : OK (h.set a c') := by
  refine ⟨fun b d hb => ?_, fun k hk => by rw [tg_set ha ht]; exact hO.2 k hk⟩
  rw [tg_set ha ht]
  by_cases q : a = b
  · subst q
    rw [List.getElem?_set_self (List.getElem?_eq_some_iff.mp ha).1] at hb
    cases hb
    exact hs
  · rw [List.getElem?_set_ne q] at hb
    exact hO.1 b d hb
theorem sh_mono {τ τ' : Nat → Nat × Nat} (hm : ∀ b t, τ b = t → t.1 < 900 → τ' b = t) {a : Nat} {c : aC} (h : sh τ a c) : sh τ' a c := by
  match c, h with
  | .inr (kd, x), h =>
    have h : shA τ a kd x := h
    show shA τ' a kd x
    match kd, h with
    | 0, h => exact h
    | 1, h => exact h
    | 2, h => exact h
    | 3, h => exact h
    | 4, h => exact h
    | 5, h =>
      obtain ⟨xs, e, k⟩ := h
      exact ⟨xs, e, fun i z hz => ⟨(k i z hz).1, hm z _ (k i z hz).2 (by decide)⟩⟩
    | 6, h => exact h
    | 7, h =>
      obtain ⟨xs, e, k⟩ := h
      exact ⟨xs, e, fun i z hz => ⟨(k i z hz).1, hm z _ (k i z hz).2 (by decide)⟩⟩
    | 8, h => exact h
    | n + 9, h => exact h.elim
  | .inl (ci, fs), h =>
    have h : shO τ a ci fs := h
    show shO τ' a ci fs
    match ci, h with
    | 0, h => exact h
    | 1, h => exact h
    | 2, h =>
      obtain ⟨h0, p, s, nd, rc, w, b, pa, bo, f, l, q1, q2, sg, q3, e, k1, k2, k3, k4, k5⟩ := h
      exact ⟨h0, p, s, nd, rc, w, b, pa, bo, f, l, q1, q2, sg, q3, e, ⟨k1.1, hm _ _ k1.2 (by decide)⟩, ⟨k2.1, hm _ _ k2.2 (by decide)⟩, fun z hz => ⟨(k3 z hz).1, hm _ _ (k3 z hz).2 (by decide)⟩, ⟨k4.1, hm _ _ k4.2 (by decide)⟩, k5⟩
    | 3, h => exact h
    | 4, h => exact h
    | 5, h => exact h
    | 6, h => exact h
    | 7, h => exact h
    | 8, h => exact h
    | 9, h =>
      obtain ⟨h0, l, e, k1, k2⟩ := h
      exact ⟨h0, l, e, hm _ _ k1 (by decide), k2⟩
    | 10, h =>
      obtain ⟨h0, nu, ki, pe, re, sl, y, m, dd, mo, cr, sp, mi, om, e, k1, k2⟩ := h
      exact ⟨h0, nu, ki, pe, re, sl, y, m, dd, mo, cr, sp, mi, om, e, fun z hz => ⟨(k1 z hz).1, hm _ _ (k1 z hz).2 (by decide)⟩, k2⟩
    | 11, h => exact h
    | 12, h => exact h
    | n + 13, h => exact h.elim
/-- a field that is only scratched on -/
def scr (ci k : Nat) : Bool := match ci with
  | 12 => [15, 16, 17, 20, 21, 22, 23, 50, 51, 52, 53, 60, 61, 62].elem k
  | 7 => k == 14
  | 8 => k == 2 || k == 3 || k == 5
  | _ => false
/-- an array that is only scratched on, or remembers -/
def scA (a : Nat) : Bool := [7, 13, 14, 20, 21, 22, 47, 48, 49, 50, 51, 88, 89, 104, 105, 106, 113].elem a
def meM : List (Nat × Nat) := []
/-- which group of cells a cell belongs to: a fixed one is its own; comets 202, words 210, their passes 221 -/
def wid (a : Nat) (t : Nat × Nat) : Nat := if a < 114 then a else if t.1 = 102 then 202 else if t.1 = 110 then 210 else if t = (0, 121) then 221 else if t = (4, 8712) then 222 else if t = (0, 9) then 223 else 200
def smC (W : List Nat) (a : Nat) (c c' : aC) : Prop := match c, c' with
  | .inl o, .inl o' => ∀ k : Nat, scr o.1 k = true ∨ 1000 + 100 * wid a (100 + o.1, o.2.length) + k ∈ W ∨ o.2[k]? = o'.2[k]?
  | .inr x, .inr x' => scA a = true ∨ (x.1, aLen x.2) ∈ meM ∨ wid a (x.1, aLen x.2) ∈ W ∨ x = x'
  | _, _ => False
def pC (c : aC) : Bool := match c with
  | .inl (2, _) => true
  | _ => false
def pW (c : aC) : Bool := match c with
  | .inl (10, _) => true
  | _ => false
def pS (c : aC) : Bool := match c with
  | .inl (2, fs) => match fs[12]? with
    | some (Sum.inr (Sum.inr (some _))) => true
    | _ => false
  | _ => false
def nC (h : aH) : Int := (h.countP pC : Nat)
def nW (h : aH) : Int := (h.countP pW : Nat)
def nS (h : aH) : Int := (h.countP pS : Nat)
def rs1 (h : aH) : Int := h.length - 4 * nC h - nS h - nW h
def rs2 (h : aH) : Int := sz h - 385 * nC h - 8712 * nS h - 13 * nW h
/-- how the heap grows: by what new comets, words and sights take -/
def gr (W : List Nat) (h h' : aH) : Prop := rs1 h' ≤ rs1 h ∧ rs2 h' ≤ rs2 h ∧ (9002 ∈ W ∨ nC h' ≤ nC h) ∧ (9010 ∈ W ∨ nW h' ≤ nW h)
/-- nothing but the groups of W has changed (but what is only remembered) -/
def un (W : List Nat) (h h' : aH) : Prop := (∀ (a : Nat) c, h[a]? = some c → ∃ c', h'[a]? = some c' ∧ tgC c' = tgC c ∧ smC W a c c') ∧ gr W h h'
theorem smC.rf {W : List Nat} {a : Nat} {c : aC} : smC W a c c := by
  match c with
  | .inl o => exact fun _ => Or.inr (Or.inr rfl)
  | .inr x => exact Or.inr (Or.inr (Or.inr rfl))
theorem smC.tr {W : List Nat} {a : Nat} {c d e : aC} (ht : tgC d = tgC c) (h1 : smC W a c d) (h2 : smC W a d e) : smC W a c e := by
  match c, d, e, ht, h1, h2 with
  | .inl (ci, fs), .inl (cj, gs), .inl o2, ht, h1, h2 =>
    have e1 : 100 + cj = 100 + ci := congrArg Prod.fst ht
    have e2 : gs.length = fs.length := congrArg Prod.snd ht
    obtain rfl : cj = ci := by omega
    intro k
    have h1 : scr cj k = true ∨ 1000 + 100 * wid a (100 + cj, fs.length) + k ∈ W ∨ fs[k]? = gs[k]? := h1 k
    have h2 : scr cj k = true ∨ 1000 + 100 * wid a (100 + cj, gs.length) + k ∈ W ∨ gs[k]? = o2.2[k]? := h2 k
    rw [e2] at h2
    show scr cj k = true ∨ 1000 + 100 * wid a (100 + cj, fs.length) + k ∈ W ∨ fs[k]? = o2.2[k]?
    rcases h1 with h1 | h1 | h1
    · exact Or.inl h1
    · exact Or.inr (Or.inl h1)
    · rcases h2 with h2 | h2 | h2
      · exact Or.inl h2
      · exact Or.inr (Or.inl h2)
      · exact Or.inr (Or.inr (h1.trans h2))
  | .inr (kd, x), .inr (kj, y), .inr z, ht, h1, h2 =>
    have e1 : kj = kd := congrArg Prod.fst ht
    have e2 : aLen y = aLen x := congrArg Prod.snd ht
    subst e1
    have h1 : scA a = true ∨ (kj, aLen x) ∈ meM ∨ wid a (kj, aLen x) ∈ W ∨ (kj, x) = (kj, y) := h1
    have h2 : scA a = true ∨ (kj, aLen y) ∈ meM ∨ wid a (kj, aLen y) ∈ W ∨ (kj, y) = z := h2
    rw [e2] at h2
    show scA a = true ∨ (kj, aLen x) ∈ meM ∨ wid a (kj, aLen x) ∈ W ∨ (kj, x) = z
    rcases h1 with h1 | h1 | h1 | h1
    · exact Or.inl h1
    · exact Or.inr (Or.inl h1)
    · exact Or.inr (Or.inr (Or.inl h1))
    · rw [h1]
      rcases h2 with h2 | h2 | h2 | h2
      · exact Or.inl h2
      · exact Or.inr (Or.inl h2)
      · exact Or.inr (Or.inr (Or.inl h2))
      · exact Or.inr (Or.inr (Or.inr h2))
theorem smC.mono {W W' : List Nat} (hw : ∀ x ∈ W, x ∈ W') {a : Nat} {c d : aC} (h : smC W a c d) : smC W' a c d := by
  match c, d, h with
  | .inl o, .inl o', h => exact fun k => (h k).imp id (Or.imp (hw _) id)
  | .inr x, .inr y, h =>
    have h : scA a = true ∨ (x.1, aLen x.2) ∈ meM ∨ wid a (x.1, aLen x.2) ∈ W ∨ x = y := h
    show scA a = true ∨ (x.1, aLen x.2) ∈ meM ∨ wid a (x.1, aLen x.2) ∈ W' ∨ x = y
    exact h.imp id (Or.imp id (Or.imp (hw _) id))
theorem gr.rf {W : List Nat} {h : aH} : gr W h h := ⟨Int.le_refl _, Int.le_refl _, Or.inr (Int.le_refl _), Or.inr (Int.le_refl _)⟩
theorem gr.tr {W : List Nat} {a b c : aH} (h : gr W a b) (g : gr W b c) : gr W a c := by
  obtain ⟨h1, h2, h3, h4⟩ := h
  obtain ⟨g1, g2, g3, g4⟩ := g
  refine ⟨Int.le_trans g1 h1, Int.le_trans g2 h2, ?_, ?_⟩
  · rcases h3 with h3 | h3
    · exact Or.inl h3
    · exact g3.imp id (fun q => Int.le_trans q h3)
  · rcases h4 with h4 | h4
    · exact Or.inl h4
    · exact g4.imp id (fun q => Int.le_trans q h4)
theorem un.rf {W : List Nat} {h : aH} : un W h h := ⟨fun _ c ha => ⟨c, ha, rfl, smC.rf⟩, gr.rf⟩
theorem un.tr {W : List Nat} {a b c : aH} (h : un W a b) (g : un W b c) : un W a c := ⟨fun k x hk => by
  obtain ⟨y, h1, h2, h3⟩ := h.1 k x hk
  obtain ⟨z, g1, g2, g3⟩ := g.1 k y h1
  exact ⟨z, g1, g2.trans h2, h3.tr h2 g3⟩, h.2.tr g.2⟩
theorem un.mono {W W' : List Nat} {h h' : aH} (hw : ∀ x ∈ W, x ∈ W') (g : un W h h') : un W' h h' := ⟨fun k x hk => by
  obtain ⟨y, h1, h2, h3⟩ := g.1 k x hk
  exact ⟨y, h1, h2, h3.mono hw⟩, g.2.1, g.2.2.1, g.2.2.2.1.imp (hw _) id, g.2.2.2.2.imp (hw _) id⟩
theorem cp_set {p : aC → Bool} : ∀ {h : aH} {a : Nat} {c c' : aC}, h[a]? = some c → (p c = true → p c' = true) → h.countP p ≤ (h.set a c').countP p
  | [], _, _, _, ha, _ => by simp at ha
  | x :: t, 0, c, c', ha, hp => by
    have e : x = c := Option.some.inj ha
    show List.countP p (x :: t) ≤ List.countP p (c' :: t)
    rw [e]
    rw [List.countP_cons, List.countP_cons]
    cases q : p c with
    | false => simp
    | true => rw [hp q]; simp
  | x :: t, a + 1, c, c', ha, hp => by
    show List.countP p (x :: t) ≤ List.countP p (x :: t.set a c')
    rw [List.countP_cons, List.countP_cons]
    have := cp_set (h := t) (a := a) (show t[a]? = some c from ha) hp
    omega
theorem cp_eq {p : aC → Bool} : ∀ {h : aH} {a : Nat} {c c' : aC}, h[a]? = some c → p c' = p c → (h.set a c').countP p = h.countP p
  | [], _, _, _, ha, _ => by simp at ha
  | x :: t, 0, c, c', ha, hp => by
    have e : x = c := Option.some.inj ha
    show List.countP p (c' :: t) = List.countP p (x :: t)
    rw [e]
    rw [List.countP_cons, List.countP_cons, hp]
  | x :: t, a + 1, c, c', ha, hp => by
    show List.countP p (x :: t.set a c') = List.countP p (x :: t)
    rw [List.countP_cons, List.countP_cons]
    have := cp_eq (h := t) (a := a) (show t[a]? = some c from ha) hp
    omega
theorem gr.set {W : List Nat} {h : aH} {a : Nat} {c c' : aC} (ha : h[a]? = some c) (hz : szC c' = szC c) (h1 : pC c' = pC c) (h2 : pW c' = pW c) (h3 : pS c = true → pS c' = true) : gr W h (h.set a c') := by
  have e1 : nC (h.set a c') = nC h := congrArg (fun n : Nat => (n : Int)) (cp_eq ha h1)
  have e2 : nW (h.set a c') = nW h := congrArg (fun n : Nat => (n : Int)) (cp_eq ha h2)
  have e3 : nS h ≤ nS (h.set a c') := Int.ofNat_le.mpr (cp_set ha h3)
  refine ⟨?_, ?_, Or.inr (Int.le_of_eq e1), Or.inr (Int.le_of_eq e2)⟩
  · unfold rs1
    rw [List.length_set, e1, e2]
    omega
  · unfold rs2
    rw [sz_set ha hz, e1, e2]
    omega
def pOk (ci k : Nat) (v : aV) : Bool := if ci = 2 ∧ k = 12 then (match v with
  | .inr (.inr (some _)) => true
  | _ => false) else true
theorem pS_set {ci k : Nat} {fs : List aV} {v : aV} (hl : k < fs.length) (hp : pOk ci k v = true) (h : pS (.inl (ci, fs)) = true) : pS (.inl (ci, fs.set k v)) = true := by
  match ci, hp, h with
  | 2, hp, h =>
    have h : (match fs[12]? with
      | some (Sum.inr (Sum.inr (some _))) => true
      | _ => false) = true := h
    show (match (fs.set k v)[12]? with
      | some (Sum.inr (Sum.inr (some _))) => true
      | _ => false) = true
    by_cases q : k = 12
    · subst q
      rw [List.getElem?_set_self hl]
      unfold pOk at hp
      rw [if_pos ⟨rfl, rfl⟩] at hp
      match v, hp with
      | .inr (.inr (some _)), _ => rfl
    · rw [List.getElem?_set_ne q]
      exact h
  | 0, _, h => exact absurd h (by simp [pS])
  | 1, _, h => exact absurd h (by simp [pS])
  | n + 3, _, h => exact absurd h (by simp [pS])
theorem pCW {ci : Nat} {fs gs : List aV} : pC (.inl (ci, fs)) = pC (.inl (ci, gs)) ∧ pW (.inl (ci, fs)) = pW (.inl (ci, gs)) := by
  unfold pC pW
  constructor
  · split
    · rename_i q; cases q; rfl
    · rename_i q
      split
      · rename_i r; cases r; exact absurd rfl (q _)
      · rfl
  · split
    · rename_i q; cases q; rfl
    · rename_i q
      split
      · rename_i r; cases r; exact absurd rfl (q _)
      · rfl
theorem un.put {W : List Nat} {h : aH} {a ci k0 : Nat} {fs : List aV} {v : aV} (ha : h[a]? = some (.inl (ci, fs))) (hl : k0 < fs.length) (hp : pOk ci k0 v = true) (hw : scr ci k0 = true ∨ 1000 + 100 * wid a (100 + ci, fs.length) + k0 ∈ W) : un W h (h.set a (.inl (ci, fs.set k0 v))) := by
  refine ⟨fun b x hb => ?_, gr.set ha (by simp [szC]) pCW.1 pCW.2 (pS_set hl hp)⟩
  by_cases q : a = b
  · subst q
    rw [ha] at hb
    cases hb
    refine ⟨.inl (ci, fs.set k0 v), by rw [List.getElem?_set_self (List.getElem?_eq_some_iff.mp ha).1], by simp [tgC], fun k => ?_⟩
    by_cases q2 : k0 = k
    · subst q2
      exact hw.imp id Or.inl
    · exact Or.inr (Or.inr (by show fs[k]? = (fs.set k0 v)[k]?; rw [List.getElem?_set_ne q2]))
  · exact ⟨x, by rw [List.getElem?_set_ne q]; exact hb, rfl, smC.rf⟩
theorem un.ars {W : List Nat} {h : aH} {a kd : Nat} {x x' : aArr} (ha : h[a]? = some (.inr (kd, x))) (hl : aLen x' = aLen x) (hw : scA a = true ∨ (kd, aLen x) ∈ meM ∨ wid a (kd, aLen x) ∈ W) : un W h (h.set a (.inr (kd, x'))) := by
  refine ⟨fun b y hb => ?_, gr.set ha hl rfl rfl (fun q => absurd q (by simp [pS]))⟩
  by_cases q : a = b
  · subst q
    rw [ha] at hb
    cases hb
    refine ⟨.inr (kd, x'), by rw [List.getElem?_set_self (List.getElem?_eq_some_iff.mp ha).1], ?_, ?_⟩
    · show (kd, aLen x') = (kd, aLen x)
      rw [hl]
    · show scA a = true ∨ (kd, aLen x) ∈ meM ∨ wid a (kd, aLen x) ∈ W ∨ (kd, x) = (kd, x')
      exact hw.imp id (Or.imp id Or.inl)
  · exact ⟨y, by rw [List.getElem?_set_ne q]; exact hb, rfl, smC.rf⟩
/-- the cells that are there stay, when some come -/
theorem keep_app {h g : aH} {a : Nat} {c : aC} {W : List Nat} (ha : h[a]? = some c) : ∃ c', (h ++ g)[a]? = some c' ∧ tgC c' = tgC c ∧ smC W a c c' := ⟨c, by rw [List.getElem?_append_left (List.getElem?_eq_some_iff.mp ha).1]; exact ha, rfl, smC.rf⟩
theorem tm_of {h h' : aH} (g : ∀ (a : Nat) c, h[a]? = some c → ∃ c', h'[a]? = some c' ∧ tgC c' = tgC c) {a : Nat} {t : Nat × Nat} (ha : tg h a = t) (hl : t.1 < 900) : tg h' a = t := by
  unfold tg at ha
  cases hk : h[a]? with
  | none =>
    rw [hk] at ha
    subst ha
    exact absurd hl (by decide)
  | some c =>
    rw [hk] at ha
    obtain ⟨c', h1, h2⟩ := g a c hk
    rw [tg_of h1, h2]
    exact ha
theorem un.tm {W : List Nat} {h h' : aH} (g : un W h h') {a : Nat} {t : Nat × Nat} (ha : tg h a = t) (hl : t.1 < 900) : tg h' a = t := tm_of (fun a c hk => by
  obtain ⟨c', h1, h2, -⟩ := g.1 a c hk
  exact ⟨c', h1, h2⟩) ha hl
theorem tm_app {h g : aH} {a : Nat} {t : Nat × Nat} (ha : tg h a = t) (hl : t.1 < 900) : tg (h ++ g) a = t := tm_of (fun a c hk => ⟨c, by rw [List.getElem?_append_left (List.getElem?_eq_some_iff.mp hk).1]; exact hk, rfl⟩) ha hl
theorem OK.app {h : aH} (hO : OK h) {c : aC} (hs : sh (tg (h ++ [c])) h.length c) : OK (h ++ [c]) := by
  have hm : ∀ b t, tg h b = t → t.1 < 900 → tg (h ++ [c]) b = t := fun b t h1 h2 => tm_app h1 h2
  refine ⟨fun a x hx => ?_, fun k hk => ?_⟩
  · by_cases q : a < h.length
    · rw [List.getElem?_append_left q] at hx
      exact sh_mono hm (hO.1 a x hx)
    · have l := (List.getElem?_eq_some_iff.mp hx).1
      rw [List.length_append, List.length_singleton] at l
      have e : a = h.length := by omega
      subst e
      rw [List.getElem?_append_right (Nat.le_refl _), Nat.sub_self] at hx
      cases hx
      exact hs
  · have h0 := hO.2 k hk
    refine hm k _ h0 ?_
    exact (show ∀ j, j < 114 → (T0.getD j (999, 0)).1 < 900 by decide +kernel) k hk
/-- a field of an object behind a call -/
theorem un.fe {W : List Nat} {h h' : aH} (g : un W h h') {a ci cj : Nat} {fs gs : List aV} (ha : h[a]? = some (.inl (ci, fs))) (hb : h'[a]? = some (.inl (cj, gs))) (k : Nat) {w : Nat} (hw : wid a (100 + ci, fs.length) = w) (h1 : scr ci k = false) (h2 : 1000 + 100 * w + k ∉ W) : fs[k]? = gs[k]? := by
  obtain ⟨c', e1, e2, e3⟩ := g.1 a _ ha
  rw [hb] at e1
  cases e1
  subst hw
  rcases (show scr ci k = true ∨ 1000 + 100 * wid a (100 + ci, fs.length) + k ∈ W ∨ fs[k]? = gs[k]? from e3 k) with q | q | q
  · rw [h1] at q; cases q
  · exact absurd q h2
  · exact q
/-- an array behind a call -/
theorem un.ka {W : List Nat} {h h' : aH} (g : un W h h') {a kd n w : Nat} {x : aArr} (ha : h[a]? = some (.inr (kd, x))) (hn : aLen x = n) (h1 : scA a = false) (h2 : (kd, n) ∉ meM) (hw : wid a (kd, n) = w) (h3 : w ∉ W) : h'[a]? = some (.inr (kd, x)) := by
  obtain ⟨c', e1, e2, e3⟩ := g.1 a _ ha
  subst hn
  subst hw
  match c', e1, e2, e3 with
  | .inr y, e1, e2, e3 =>
    rcases (show scA a = true ∨ (kd, aLen x) ∈ meM ∨ wid a (kd, aLen x) ∈ W ∨ (kd, x) = y from e3) with q | q | q | q
    · rw [h1] at q; cases q
    · exact absurd q h2
    · exact absurd q h3
    · rw [e1, ← q]
/-- a whole object behind a call -/
theorem un.ko {W : List Nat} {h h' : aH} (g : un W h h') {a ci n w : Nat} {fs : List aV} (ha : h[a]? = some (.inl (ci, fs))) (hn : fs.length = n) (hw : wid a (100 + ci, n) = w) (h1 : ∀ k, k < n → scr ci k = false ∧ 1000 + 100 * w + k ∉ W) : h'[a]? = some (.inl (ci, fs)) := by
  obtain ⟨c', e1, e2, e3⟩ := g.1 a _ ha
  subst hn
  match c', e1, e2, e3 with
  | .inl (cj, gs), e1, e2, e3 =>
    have l1 : 100 + cj = 100 + ci := congrArg Prod.fst e2
    have l2 : gs.length = fs.length := congrArg Prod.snd e2
    obtain rfl : cj = ci := by omega
    rw [e1]
    refine congrArg (fun l => some (Sum.inl (cj, l) : aC)) (List.ext_getElem? (fun k => ?_))
    by_cases q : k < fs.length
    · exact (g.fe ha e1 k hw (h1 k q).1 (h1 k q).2).symm
    · rw [List.getElem?_eq_none (by omega), List.getElem?_eq_none (by omega)]
  | .inr y, e1, e2, e3 => exact (show False from e3).elim
theorem ok_55 {h : aH} (hO : OK h) : ∃ ran : Int32, h[55]? = some (.inl (0, [.inr (.inr (some 56)), .inl ran])) ∧ 0 ≤ ran.toInt ∧ ran.toInt ≤ 100000000 := by
  obtain ⟨fs, h1, -, h2⟩ := hO.obj (a := 55) (ci := 0) (n := 2) (hO.2 55 (by decide)) (by decide)
  obtain ⟨-, ran, rfl, h3⟩ := h2
  exact ⟨ran, h1, h3⟩
theorem ok_15 {h : aH} (hO : OK h) : ∃ n y m dd : Int32, h[15]? = some (.inl (1, [.inr (.inr (some 16)), .inl n, .inl y, .inl m, .inl dd, .inr (.inr (some 17)), .inr (.inr (some 18)), .inr (.inr (some 19)), .inr (.inr (some 20)), .inr (.inr (some 21)), .inr (.inr (some 22))])) ∧ 0 ≤ n.toInt ∧ n.toInt ≤ 150 := by
  obtain ⟨fs, h1, -, h2⟩ := hO.obj (a := 15) (ci := 1) (n := 11) (hO.2 15 (by decide)) (by decide)
  obtain ⟨-, n, y, m, dd, rfl, h3⟩ := h2
  exact ⟨n, y, m, dd, h1, h3⟩
theorem ok_52 {h : aH} (hO : OK h) : ∃ n : Int32, h[52]? = some (.inl (3, [.inr (.inr (some 53)), .inr (.inr (some 54)), .inl n])) ∧ 0 ≤ n.toInt ∧ n.toInt ≤ 5 := by
  obtain ⟨fs, h1, -, h2⟩ := hO.obj (a := 52) (ci := 3) (n := 3) (hO.2 52 (by decide)) (by decide)
  obtain ⟨-, n, rfl, h3⟩ := h2
  exact ⟨n, h1, h3⟩
theorem ok_57 {h : aH} (hO : OK h) : h[57]? = some (.inl (4, [.inr (.inr (some 58)), .inr (.inr (some 59)), .inr (.inr (some 60)), .inr (.inr (some 61)), .inr (.inr (some 62))])) ∧ True := by
  obtain ⟨fs, h1, -, h2⟩ := hO.obj (a := 57) (ci := 4) (n := 5) (hO.2 57 (by decide)) (by decide)
  obtain ⟨-, rfl, h3⟩ := h2
  exact ⟨h1, h3⟩
theorem ok_8 {h : aH} (hO : OK h) : ∃ v : Int32, h[8]? = some (.inl (5, [.inr (.inr (some 9)), .inr (.inr (some 11)), .inr (.inr (some 13)), .inr (.inr (some 14)), .inl v])) ∧ True := by
  obtain ⟨fs, h1, -, h2⟩ := hO.obj (a := 8) (ci := 5) (n := 5) (hO.2 8 (by decide)) (by decide)
  obtain ⟨-, v, rfl, h3⟩ := h2
  exact ⟨v, h1, h3⟩
theorem ok_1 {h : aH} (hO : OK h) : ∃ g n : Int32, h[1]? = some (.inl (6, [.inr (.inr (some 2)), .inr (.inr (some 3)), .inl g, .inr (.inr (some 4)), .inl n])) ∧ 0 ≤ g.toInt ∧ g.toInt ≤ 4 ∧ 0 ≤ n.toInt ∧ n.toInt ≤ 12 := by
  obtain ⟨fs, h1, -, h2⟩ := hO.obj (a := 1) (ci := 6) (n := 5) (hO.2 1 (by decide)) (by decide)
  obtain ⟨-, g, n, rfl, h3⟩ := h2
  exact ⟨g, n, h1, h3⟩
theorem ok_41 {h : aH} (hO : OK h) : ∃ n nc : Int32, h[41]? = some (.inl (7, [.inr (.inr (some 1)), .inr (.inr (some 15)), .inr (.inr (some 8)), .inr (.inr (some 42)), .inr (.inr (some 43)), .inr (.inr (some 44)), .inl n, .inr (.inr (some 45)), .inr (.inr (some 46)), .inr (.inr (some 47)), .inr (.inr (some 48)), .inr (.inr (some 49)), .inr (.inr (some 50)), .inr (.inr (some 51)), .inl nc])) ∧ 0 ≤ n.toInt ∧ n.toInt ≤ 10 ∧ 0 ≤ nc.toInt ∧ nc.toInt ≤ 121 := by
  obtain ⟨fs, h1, -, h2⟩ := hO.obj (a := 41) (ci := 7) (n := 15) (hO.2 41 (by decide)) (by decide)
  obtain ⟨-, n, nc, rfl, h3⟩ := h2
  exact ⟨n, nc, h1, h3⟩
theorem ok_5 {h : aH} (hO : OK h) : ∃ n att fa len : Int32, h[5]? = some (.inl (8, [.inr (.inr (some 6)), .inl n, .inl att, .inl fa, .inr (.inr (some 7)), .inl len])) ∧ 0 ≤ n.toInt ∧ n.toInt ≤ 120 ∧ 0 ≤ len.toInt ∧ len.toInt ≤ 128 := by
  obtain ⟨fs, h1, -, h2⟩ := hO.obj (a := 5) (ci := 8) (n := 6) (hO.2 5 (by decide)) (by decide)
  obtain ⟨-, n, att, fa, len, rfl, h3⟩ := h2
  exact ⟨n, att, fa, len, h1, h3⟩
theorem ok_0 {h : aH} (hO : OK h) : h[0]? = some (.inl (11, [.inr (.inr (some 1)), .inr (.inr (some 5)), .inr (.inr (some 8)), .inr (.inr (some 15)), .inr (.inr (some 41)), .inr (.inr (some 52)), .inr (.inr (some 55)), .inr (.inr (some 57))])) ∧ True := by
  obtain ⟨fs, h1, -, h2⟩ := hO.obj (a := 0) (ci := 11) (n := 8) (hO.2 0 (by decide)) (by decide)
  obtain ⟨-, rfl, h3⟩ := h2
  exact ⟨h1, h3⟩
theorem ok_69 {h : aH} (hO : OK h) : ∃ code greats comets degreeIs distanceIs eIs taped here fault opn laid watches words yearNow monthNow dayNow spanFirst spanLast lookFrom lookTo evenings drawn nextDay nextBy traces : Int32, h[69]? = some (.inl (12, [.inl code, .inl greats, .inr (.inr (some 70)), .inr (.inr (some 71)), .inl comets, .inr (.inr (some 72)), .inr (.inr (some 73)), .inr (.inr (some 74)), .inr (.inr (some 75)), .inr (.inr (some 76)), .inr (.inr (some 77)), .inr (.inr (some 78)), .inr (.inr (some 79)), .inr (.inr (some 80)), .inr (.inr (some 81)), .inl degreeIs, .inl distanceIs, .inl eIs, .inr (.inr (some 82)), .inl taped, .inl here, .inl fault, .inl opn, .inl laid, .inr (.inr (some 83)), .inr (.inr (some 84)), .inr (.inr (some 85)), .inr (.inr (some 86)), .inr (.inr (some 87)), .inr (.inr (some 88)), .inr (.inr (some 89)), .inr (.inr (some 90)), .inr (.inr (some 91)), .inr (.inr (some 92)), .inl watches, .inr (.inr (some 93)), .inr (.inr (some 94)), .inr (.inr (some 95)), .inl words, .inr (.inr (some 96)), .inr (.inr (some 97)), .inr (.inr (some 98)), .inr (.inr (some 99)), .inr (.inr (some 100)), .inr (.inr (some 101)), .inr (.inr (some 102)), .inr (.inr (some 103)), .inl yearNow, .inl monthNow, .inl dayNow, .inl spanFirst, .inl spanLast, .inl lookFrom, .inl lookTo, .inr (.inr (some 104)), .inr (.inr (some 105)), .inr (.inr (some 106)), .inl evenings, .inr (.inr (some 107)), .inr (.inr (some 108)), .inl drawn, .inl nextDay, .inl nextBy, .inl traces, .inr (.inr (some 109)), .inr (.inr (some 110)), .inr (.inr (some 111)), .inr (.inr (some 112)), .inr (.inr (some 113))])) ∧ 0 ≤ greats.toInt ∧ greats.toInt ≤ 4 ∧ 0 ≤ comets.toInt ∧ comets.toInt ≤ 12 ∧ 0 ≤ taped.toInt ∧ taped.toInt ≤ 120 ∧ 0 ≤ watches.toInt ∧ watches.toInt ≤ 10 ∧ 0 ≤ words.toInt ∧ words.toInt ≤ 150 ∧ 0 ≤ evenings.toInt ∧ evenings.toInt ≤ 5 ∧ 0 ≤ traces.toInt ∧ traces.toInt ≤ 1000000 ∧ 0 ≤ laid.toInt ∧ laid.toInt ≤ 130 := by
  obtain ⟨fs, h1, -, h2⟩ := hO.obj (a := 69) (ci := 12) (n := 69) (hO.2 69 (by decide)) (by decide)
  obtain ⟨-, code, greats, comets, degreeIs, distanceIs, eIs, taped, here, fault, opn, laid, watches, words, yearNow, monthNow, dayNow, spanFirst, spanLast, lookFrom, lookTo, evenings, drawn, nextDay, nextBy, traces, rfl, h3⟩ := h2
  exact ⟨code, greats, comets, degreeIs, distanceIs, eIs, taped, here, fault, opn, laid, watches, words, yearNow, monthNow, dayNow, spanFirst, spanLast, lookFrom, lookTo, evenings, drawn, nextDay, nextBy, traces, h1, h3⟩
theorem OK.comet {h : aH} (hO : OK h) {a : Nat} (ht : tg h a = (102, 14)) : 114 ≤ a ∧ ∃ (p s nd rc w b pa bo f l : Int32) (q1 q2 : Nat) (sg : Option Nat) (q3 : Nat), h[a]? = some (.inl (2, [.inl p, .inl s, .inl nd, .inl rc, .inl w, .inl b, .inl pa, .inl bo, .inl f, .inl l, .inr (.inr (some q1)), .inr (.inr (some q2)), .inr (.inr sg), .inr (.inr (some q3))])) ∧ (114 ≤ q1 ∧ tg h q1 = (0, 121)) ∧ (114 ≤ q2 ∧ tg h q2 = (0, 241)) ∧ (∀ z, sg = some z → 114 ≤ z ∧ tg h z = (4, 8712)) ∧ (114 ≤ q3 ∧ tg h q3 = (0, 9)) ∧ -60 ≤ f.toInt ∧ f.toInt ≤ 0 ∧ 0 ≤ l.toInt ∧ l.toInt ≤ 60 := by
  obtain ⟨fs, h1, -, h2⟩ := hO.obj (ci := 2) (n := 14) ht (by decide)
  obtain ⟨h0, p, s, nd, rc, w, b, pa, bo, f, l, q1, q2, sg, q3, rfl, h3⟩ := h2
  exact ⟨h0, p, s, nd, rc, w, b, pa, bo, f, l, q1, q2, sg, q3, h1, h3⟩
theorem OK.word {h : aH} (hO : OK h) {a : Nat} (ht : tg h a = (110, 13)) : 114 ≤ a ∧ ∃ (nu ki pe re sl y m dd mo : Int32) (cr : Option Nat) (sp mi om : Int32), h[a]? = some (.inl (10, [.inl nu, .inl ki, .inl pe, .inl re, .inl sl, .inl y, .inl m, .inl dd, .inl mo, .inr (.inr cr), .inl sp, .inl mi, .inl om])) ∧ (∀ z, cr = some z → 114 ≤ z ∧ tg h z = (110, 13)) ∧ 0 ≤ nu.toInt ∧ nu.toInt ≤ 149 ∧ 0 ≤ ki.toInt ∧ ki.toInt ≤ 7 ∧ 0 ≤ pe.toInt ∧ pe.toInt ≤ 8 ∧ -1 ≤ re.toInt ∧ re.toInt ≤ 19 := by
  obtain ⟨fs, h1, -, h2⟩ := hO.obj (ci := 10) (n := 13) ht (by decide)
  obtain ⟨h0, nu, ki, pe, re, sl, y, m, dd, mo, cr, sp, mi, om, rfl, h3⟩ := h2
  exact ⟨h0, nu, ki, pe, re, sl, y, m, dd, mo, cr, sp, mi, om, h1, h3⟩
theorem OK.text {h : aH} (hO : OK h) {a : Nat} (ht : tg h a = (109, 2)) : a < 114 ∧ ∃ l : Int32, h[a]? = some (.inl (9, [.inr (.inr (some (a + 1))), .inl l])) ∧ tg h (a + 1) = (0, 128) ∧ 0 ≤ l.toInt ∧ l.toInt ≤ 128 := by
  obtain ⟨fs, h1, -, h2⟩ := hO.obj (ci := 9) (n := 2) ht (by decide)
  obtain ⟨h0, l, rfl, h3⟩ := h2
  exact ⟨h0, l, h1, h3⟩
theorem OK.int {h : aH} (hO : OK h) {a n : Nat} (ht : tg h a = (0, n)) : ∃ xs, h[a]? = some (.inr (0, .inl xs)) ∧ xs.length = n ∧ elR a xs := by
  obtain ⟨x, h1, h2, h3⟩ := hO.arr ht (by decide)
  obtain ⟨xs, rfl, h4⟩ := h3
  exact ⟨xs, h1, h2, h4⟩
theorem OK.byt {h : aH} (hO : OK h) {a n : Nat} (ht : tg h a = (1, n)) : ∃ xs, h[a]? = some (.inr (1, .inl xs)) ∧ xs.length = n ∧ elR a xs := by
  obtain ⟨x, h1, h2, h3⟩ := hO.arr ht (by decide)
  obtain ⟨xs, rfl, h4⟩ := h3
  exact ⟨xs, h1, h2, h4⟩
theorem OK.sho {h : aH} (hO : OK h) {a n : Nat} (ht : tg h a = (2, n)) : ∃ xs, h[a]? = some (.inr (2, .inl xs)) ∧ xs.length = n ∧ elR a xs := by
  obtain ⟨x, h1, h2, h3⟩ := hO.arr ht (by decide)
  obtain ⟨xs, rfl, h4⟩ := h3
  exact ⟨xs, h1, h2, h4⟩
theorem OK.boo {h : aH} (hO : OK h) {a n : Nat} (ht : tg h a = (3, n)) : ∃ xs, h[a]? = some (.inr (3, .inl xs)) ∧ xs.length = n ∧ elR a xs := by
  obtain ⟨x, h1, h2, h3⟩ := hO.arr ht (by decide)
  obtain ⟨xs, rfl, h4⟩ := h3
  exact ⟨xs, h1, h2, h4⟩
theorem OK.lon {h : aH} (hO : OK h) {a n : Nat} (ht : tg h a = (4, n)) : ∃ xs, h[a]? = some (.inr (4, .inr (.inl xs))) ∧ xs.length = n := by
  obtain ⟨x, h1, h2, h3⟩ := hO.arr ht (by decide)
  obtain ⟨xs, rfl⟩ := h3
  exact ⟨xs, h1, h2⟩
theorem OK.com {h : aH} (hO : OK h) {a n : Nat} (ht : tg h a = (5, n)) : ∃ xs, h[a]? = some (.inr (5, .inr (.inr xs))) ∧ xs.length = n ∧ ∀ (i : Nat) z, xs[i]? = some (some z) → 114 ≤ z ∧ tg h z = (102, 14) := by
  obtain ⟨x, h1, h2, h3⟩ := hO.arr ht (by decide)
  obtain ⟨xs, rfl, h4⟩ := h3
  exact ⟨xs, h1, h2, h4⟩
theorem OK.wor {h : aH} (hO : OK h) {a n : Nat} (ht : tg h a = (7, n)) : ∃ xs, h[a]? = some (.inr (7, .inr (.inr xs))) ∧ xs.length = n ∧ ∀ (i : Nat) z, xs[i]? = some (some z) → 114 ≤ z ∧ tg h z = (110, 13) := by
  obtain ⟨x, h1, h2, h3⟩ := hO.arr ht (by decide)
  obtain ⟨xs, rfl, h4⟩ := h3
  exact ⟨xs, h1, h2, h4⟩
theorem OK.fix {h : aH} (hO : OK h) (k : Nat) (hk : k < 114) {t : Nat × Nat} (ht : T0.getD k (999, 0) = t) : tg h k = t := (hO.2 k hk).trans ht
theorem any_r (x : Int32) : -2147483648 ≤ x.toInt ∧ x.toInt ≤ 2147483647 := ⟨Int32.le_toInt x, by have := Int32.toInt_lt x; omega⟩
theorem elR.set {a : Nat} {xs : List Int32} (h : elR a xs) {i : Nat} {y : Int32} (hy : (rng a).1 ≤ y.toInt ∧ y.toInt ≤ (rng a).2) : elR a (xs.set i y) := fun j z hz => by
  by_cases q : i = j
  · subst q
    have l : i < xs.length := by
      have := (List.getElem?_eq_some_iff.mp hz).1
      rwa [List.length_set] at this
    rw [List.getElem?_set_self l] at hz
    cases hz
    exact hy
  · rw [List.getElem?_set_ne q] at hz
    exact h j z hz
end WLD
