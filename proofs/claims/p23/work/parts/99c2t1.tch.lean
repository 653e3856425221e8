/-! THE READER OF TEXTS without the machine: one step function; what it comes to is the same for both -/
section RDR
set_option maxRecDepth 4000
def nmc (c : Int) : Int := if c = 115 then 0 else if c = 113 then 1 else if c = 98 then 2 else if c = 103 then 3 else if c = 101 then 4 else if c = 100 then 5 else if c = 112 then 6 else if c = 121 then 7 else if c = 109 then 8 else if c = 114 then 9 else -1
/-- up to k more digits from a place on -/
def nrd (t : Int → Int) : Nat → Int → Int → Int × Int
  | 0, p, v => (p, v)
  | k + 1, p, v => if 48 ≤ t p ∧ t p ≤ 57 then nrd t k (p + 1) (10 * v + t p - 48) else (p, v)
/-- what goes on, the place, the open ones, what waits, the tokens -/
abbrev RS := Int × Int × Int × List (Int × Int) × List (Int × Int)
def rflt (p : Int) : RS := (30, p, 0, [], [])
def opd (t : Int → Int) (p o : Int) (K u : List (Int × Int)) : RS :=
  if 48 ≤ t p ∧ t p ≤ 57 then
    (if 48 ≤ t (nrd t 6 p 0).1 ∧ t (nrd t 6 p 0).1 ≤ 57 then rflt (nrd t 6 p 0).1 else (20, (nrd t 6 p 0).1, o, K, u ++ [(1, (nrd t 6 p 0).2)]))
  else if 0 ≤ nmc (t p) then (20, p + 1, o, K, u ++ [(2, nmc (t p))])
  else if (t p = 33 ∨ t p = 45) ∧ o < 6 then (0, p + 1, o + 1, (16, if t p = 33 then 3 else 4) :: K, u)
  else if t p = 40 ∧ o < 6 then (5, p + 1, o + 1, (17, 0) :: K, u)
  else rflt p
def iop (l c : Int) : Prop := (l = 1 ∧ (c = 42 ∨ c = 47 ∨ c = 37)) ∨ (l = 2 ∧ (c = 43 ∨ c = 45)) ∨ (l = 3 ∧ (c = 60 ∨ c = 61 ∨ c = 62)) ∨ (l = 4 ∧ c = 38) ∨ (l = 5 ∧ c = 124)
def iopb (l c : Int) : Bool := decide ((l = 1 ∧ (c = 42 ∨ c = 47 ∨ c = 37)) ∨ (l = 2 ∧ (c = 43 ∨ c = 45)) ∨ (l = 3 ∧ (c = 60 ∨ c = 61 ∨ c = 62)) ∨ (l = 4 ∧ c = 38) ∨ (l = 5 ∧ c = 124))
theorem iopb_1 {l c : Int} (h : iop l c) : iopb l c = true := decide_eq_true h
theorem iopb_0 {l c : Int} (h : ¬ iop l c) : iopb l c = false := decide_eq_false h
def rret (t : Int → Int) (f s p o : Int) (K u : List (Int × Int)) : RS :=
  if 1 ≤ f ∧ f ≤ 5 then (if f = 3 ∧ s ≠ 0 then 20 else 10 + f, p, o, K, if s = 0 then u else u ++ [(s, 0)])
  else if f = 16 then (20, p, o - 1, K, u ++ [(s, 0)])
  else if f = 17 then (if t p = 41 then (20, p + 1, o - 1, K, u) else rflt p)
  else if f = 6 then (if t p = 63 then (5, p + 1, o, (8, 0) :: K, u ++ [(100, 0)]) else (9, p, o, K, u ++ [(101, 0)]))
  else (9, p, o, K, u ++ [(101, 0)])
def rst (t : Int → Int) (m p o : Int) (K u : List (Int × Int)) : RS :=
  if 1 ≤ m ∧ m ≤ 5 then (m - 1, p, o, (m, 0) :: K, u)
  else if m = 0 then opd t p o K u
  else if 11 ≤ m ∧ m ≤ 15 then (if iopb (m - 10) (t p) = true then (m - 11, p + 1, o, (m - 10, t p) :: K, u) else (20, p, o, K, u))
  else if m = 20 then (match K with
    | [] => (40, p, o, [], u)
    | (f, s) :: K' => rret t f s p o K' u)
  else if m = 6 then (5, p, o, (6, 0) :: K, u)
  else if m = 9 then (if t p = 59 then (6, p + 1, o, K, u) else if t p = -1 then (40, p, o, K, u) else rflt p)
  else (m, p, o, K, u)
def rstp (t : Int → Int) (s : RS) : RS := rst t s.1 s.2.1 s.2.2.1 s.2.2.2.1 s.2.2.2.2
def ritr (t : Int → Int) : Nat → RS → RS
  | 0, s => s
  | n + 1, s => ritr t n (rstp t s)
def rch (t : Int → Int) (a b : RS) : Prop := ∃ n, ritr t n a = b
theorem ritr_add {t : Int → Int} : ∀ (n m : Nat) (s : RS), ritr t (n + m) s = ritr t m (ritr t n s)
  | 0, m, s => by rw [Nat.zero_add]; rfl
  | n + 1, m, s => by
    rw [show n + 1 + m = (n + m) + 1 by omega]
    exact ritr_add n m (rstp t s)
theorem rch.rf {t : Int → Int} {a : RS} : rch t a a := ⟨0, rfl⟩
theorem rch.one {t : Int → Int} {a b : RS} (h : rstp t a = b) : rch t a b := ⟨1, h⟩
theorem rch.tr {t : Int → Int} {a b c : RS} (g : rch t a b) (f : rch t b c) : rch t a c := by
  obtain ⟨n, hn⟩ := g
  obtain ⟨m, hm⟩ := f
  exact ⟨n + m, by rw [ritr_add, hn, hm]⟩
theorem ritr_fix {t : Int → Int} {b : RS} (h : rstp t b = b) : ∀ n, ritr t n b = b
  | 0 => rfl
  | n + 1 => (congrArg (ritr t n) h).trans (ritr_fix h n)
theorem rch_det {t : Int → Int} {a b c : RS} (ha : rch t a b) (hb : rstp t b = b) (hc : rch t a c) (hd : rstp t c = c) : b = c := by
  obtain ⟨n, hn⟩ := ha
  obtain ⟨m, hm⟩ := hc
  rcases Nat.le_total n m with q | q
  · have e := ritr_add (t := t) n (m - n) a
    rw [show n + (m - n) = m by omega, hn, hm, ritr_fix hb] at e
    exact e.symm
  · have e := ritr_add (t := t) m (n - m) a
    rw [show m + (n - m) = n by omega, hn, hm, ritr_fix hd] at e
    exact e
theorem rflt_fix {t : Int → Int} {f : Int} : rstp t (rflt f) = rflt f := rfl
theorem rdone_fix {t : Int → Int} {p : Int} {u : List (Int × Int)} : rstp t (40, p, 0, [], u) = (40, p, 0, [], u) := rfl
/- the rules, one a step -/
theorem rs_in {t : Int → Int} {l p o : Int} {K u : List (Int × Int)} (h1 : 1 ≤ l) (h5 : l ≤ 5) : rstp t (l, p, o, K, u) = (l - 1, p, o, (l, 0) :: K, u) := if_pos ⟨h1, h5⟩
theorem rs_0 {t : Int → Int} {p o : Int} {K u : List (Int × Int)} : rstp t (0, p, o, K, u) = opd t p o K u := rfl
theorem rs_op {t : Int → Int} {l p o c : Int} {K u : List (Int × Int)} (h1 : 1 ≤ l) (h5 : l ≤ 5) (hc : t p = c) (h : iop l c) : rstp t (10 + l, p, o, K, u) = (l - 1, p + 1, o, (l, c) :: K, u) := by
  show rst t (10 + l) p o K u = _
  unfold rst
  rw [if_neg (by omega), if_neg (by omega), if_pos (by omega), show 10 + l - 10 = l by omega, show 10 + l - 11 = l - 1 by omega, hc, if_pos (iopb_1 h)]
theorem rs_no {t : Int → Int} {l p o : Int} {K u : List (Int × Int)} (h1 : 1 ≤ l) (h5 : l ≤ 5) (h : ¬ iop l (t p)) : rstp t (10 + l, p, o, K, u) = (20, p, o, K, u) := by
  show rst t (10 + l) p o K u = _
  unfold rst
  rw [if_neg (by omega), if_neg (by omega), if_pos (by omega), show 10 + l - 10 = l by omega, iopb_0 h, if_neg (by decide)]
theorem rs_ret {t : Int → Int} {f s p o : Int} {K u : List (Int × Int)} : rstp t (20, p, o, (f, s) :: K, u) = rret t f s p o K u := rfl
theorem rr_l0 {t : Int → Int} {l p o : Int} {K u : List (Int × Int)} (h1 : 1 ≤ l) (h5 : l ≤ 5) : rret t l 0 p o K u = (10 + l, p, o, K, u) := by
  unfold rret
  rw [if_pos ⟨h1, h5⟩, if_neg (by omega), if_pos rfl]
theorem rr_ls {t : Int → Int} {l c p o : Int} {K u : List (Int × Int)} (h1 : 1 ≤ l) (h5 : l ≤ 5) (h3 : l ≠ 3) (hc : c ≠ 0) : rret t l c p o K u = (10 + l, p, o, K, u ++ [(c, 0)]) := by
  unfold rret
  rw [if_pos ⟨h1, h5⟩, if_neg (by omega), if_neg hc]
theorem rr_l3 {t : Int → Int} {c p o : Int} {K u : List (Int × Int)} (hc : c ≠ 0) : rret t 3 c p o K u = (20, p, o, K, u ++ [(c, 0)]) := by
  unfold rret
  rw [if_pos (by omega), if_pos ⟨rfl, hc⟩, if_neg hc]
theorem iop_ne {l c : Int} (h : iop l c) : 5 ≤ c ∧ c ≤ 124 := by unfold iop at h; omega
/- evaluating: tokens over a pile -/
def tw (a : Int) (x y : Int32) : Int32 := if a = 43 then x + y else if a = 45 then x - y else if a = 42 then x * y else if a = 47 then (if y = 0 then 0 else x / y) else if a = 37 then (if y = 0 then 0 else x - x / y * y) else if a = 60 then (if x.toInt < y.toInt then 1 else 0) else if a = 61 then (if x = y then 1 else 0) else if a = 62 then (if y.toInt < x.toInt then 1 else 0) else if a = 38 then (if x ≠ 0 ∧ y ≠ 0 then 1 else 0) else (if x ≠ 0 ∨ y ≠ 0 then 1 else 0)
def tk (ν : Int → Int32) (m a x : Int) (s : List Int32) : Option (List Int32) :=
  if a = 1 ∨ a = 2 then (if (s.length : Int) + 1 ≤ m then some ((if a = 1 then Int32.ofInt x else ν x) :: s) else none)
  else if a = 3 then (match s with
    | [] => none
    | v :: s => some ((if v = 0 then 1 else 0) :: s))
  else if a = 4 then (match s with
    | [] => none
    | v :: s => some (-v :: s))
  else (match s with
    | y :: v :: s => some (tw a v y :: s)
    | _ => none)
def tev (ν : Int → Int32) (m : Int) : List (Int × Int) → List Int32 → Option (List Int32)
  | [], s => some s
  | (a, x) :: e, s => match tk ν m a x s with
    | some s' => tev ν m e s'
    | none => none
theorem tev_app {ν : Int → Int32} {m : Int} : ∀ (e f : List (Int × Int)) (s s' : List Int32), tev ν m e s = some s' → tev ν m (e ++ f) s = tev ν m f s'
  | [], f, s, s', h => by
    obtain rfl : s = s' := Option.some.inj h
    rfl
  | (a, x) :: e, f, s, s', h => by
    show (match tk ν m a x s with
      | some s' => tev ν m (e ++ f) s'
      | none => none) = _
    have h : (match tk ν m a x s with
      | some s' => tev ν m e s'
      | none => none) = some s' := h
    cases k : tk ν m a x s with
    | none => rw [k] at h; exact absurd h (by simp)
    | some z =>
      rw [k] at h
      exact tev_app e f z s' h
/-- one value is put on the pile, with at most B places -/
def bal (B : Int) (e : List (Int × Int)) : Prop := ∀ ν : Int → Int32, ∃ v : Int32, ∀ (m : Int) (s : List Int32), (s.length : Int) + B ≤ m → tev ν m e s = some (v :: s)
def tok (x : Int × Int) : Prop := (x.1 = 1 ∧ 0 ≤ x.2 ∧ x.2 ≤ 999999) ∨ (x.1 = 2 ∧ 0 ≤ x.2 ∧ x.2 ≤ 9) ∨ ((x.1 = 3 ∨ x.1 = 4 ∨ x.1 = 37 ∨ x.1 = 38 ∨ x.1 = 42 ∨ x.1 = 43 ∨ x.1 = 45 ∨ x.1 = 47 ∨ x.1 = 60 ∨ x.1 = 61 ∨ x.1 = 62 ∨ x.1 = 124) ∧ x.2 = 0)
def blE (B : Int) (e : List (Int × Int)) : Prop := bal B e ∧ (∀ x ∈ e, tok x) ∧ e ≠ []
theorem blE.le {B C : Int} {e : List (Int × Int)} (h : blE B e) (q : B ≤ C) : blE C e := ⟨fun ν => by
  obtain ⟨v, g⟩ := h.1 ν
  exact ⟨v, fun m s k => g m s (by omega)⟩, h.2⟩
theorem blE_push {a x B : Int} (h : (a = 1 ∧ 0 ≤ x ∧ x ≤ 999999) ∨ (a = 2 ∧ 0 ≤ x ∧ x ≤ 9)) (hB : 1 ≤ B) : blE B [(a, x)] := ⟨fun ν => ⟨if a = 1 then Int32.ofInt x else ν x, fun m s k => by
  show (match tk ν m a x s with
      | some s' => tev ν m [] s'
      | none => none) = _
  unfold tk
  rw [if_pos (by omega), if_pos (by omega)]
  rfl⟩, fun y hy => by
  rw [List.mem_singleton] at hy
  subst hy
  rcases h with q | q
  · exact Or.inl q
  · exact Or.inr (Or.inl q), by simp⟩
theorem blE_un {c B : Int} {e : List (Int × Int)} (h : blE B e) (hc : c = 3 ∨ c = 4) : blE B (e ++ [(c, 0)]) := ⟨fun ν => by
  obtain ⟨v, g⟩ := h.1 ν
  refine ⟨if c = 3 then (if v = 0 then 1 else 0) else -v, fun m s k => ?_⟩
  rw [tev_app e _ s _ (g m s k)]
  show (match tk ν m c 0 (v :: s) with
      | some s' => tev ν m [] s'
      | none => none) = _
  unfold tk
  rcases hc with q | q
  · subst q
    rfl
  · subst q
    rfl, fun y hy => by
  rcases List.mem_append.1 hy with q | q
  · exact h.2.1 y q
  · rw [List.mem_singleton] at q
    subst q
    exact Or.inr (Or.inr ⟨by show c = 3 ∨ c = 4 ∨ _; omega, rfl⟩), by simp⟩
theorem blE_bin {l c B B1 B2 : Int} {e f : List (Int × Int)} (h : blE B1 e) (g : blE B2 f) (hc : iop l c) (h1 : B1 ≤ B) (h2 : B2 + 1 ≤ B) : blE B (e ++ f ++ [(c, 0)]) := ⟨fun ν => by
  obtain ⟨v, a⟩ := h.1 ν
  obtain ⟨y, b⟩ := g.1 ν
  refine ⟨tw c v y, fun m s k => ?_⟩
  have z := iop_ne hc
  have e1 := tev_app e f s _ (a m s (by omega))
  rw [b m (v :: s) (by rw [List.length_cons]; omega)] at e1
  rw [tev_app (e ++ f) _ s _ e1]
  show (match tk ν m c 0 (y :: v :: s) with
      | some s' => tev ν m [] s'
      | none => none) = _
  unfold tk
  rw [if_neg (by omega), if_neg (by omega), if_neg (by omega)]
  rfl, fun x hx => by
  rcases List.mem_append.1 hx with q | q
  · rcases List.mem_append.1 q with q | q
    · exact h.2.1 x q
    · exact g.2.1 x q
  · rw [List.mem_singleton] at q
    subst q
    refine Or.inr (Or.inr ⟨?_, rfl⟩)
    unfold iop at hc
    show c = 3 ∨ c = 4 ∨ c = 37 ∨ c = 38 ∨ c = 42 ∨ c = 43 ∨ c = 45 ∨ c = 47 ∨ c = 60 ∨ c = 61 ∨ c = 62 ∨ c = 124
    omega, by simp⟩
/- what a method reads -/
def Rdg (t : Int → Int) (l o p : Int) (e : List (Int × Int)) (q : Int) : Prop := blE (31 - 5 * o + l) e ∧ ∀ K u, rch t (l, p, o, K, u) (20, q, o, K, u ++ e)
def Flt (t : Int → Int) (l o p f : Int) : Prop := ∀ K u, rch t (l, p, o, K, u) (rflt f)
def Lpg (t : Int → Int) (l o p : Int) (e : List (Int × Int)) (q : Int) : Prop := blE (31 - 5 * o + l) e ∧ ∀ K u, rch t (l, p, o, K, u) (10 + l, q, o, K, u ++ e)
theorem Rdg.up {t : Int → Int} {l k o p q : Int} {e : List (Int × Int)} (h : Rdg t k o p e q) (hk : k = l - 1) (h1 : 1 ≤ l) (h5 : l ≤ 5) : Lpg t l o p e q := by
  subst hk
  refine ⟨h.1.le (by omega), fun K u => (rch.one (rs_in h1 h5)).tr ((h.2 _ u).tr (rch.one ?_))⟩
  rw [rs_ret, rr_l0 h1 h5]
theorem Flt.up {t : Int → Int} {l k o p f : Int} (h : Flt t k o p f) (hk : k = l - 1) (h1 : 1 ≤ l) (h5 : l ≤ 5) : Flt t l o p f := by
  subst hk
  exact fun K u => (rch.one (rs_in h1 h5)).tr (h _ u)
theorem Lpg.op {t : Int → Int} {l k o p q c r : Int} {e f : List (Int × Int)} (h : Lpg t l o p e q) (hk : k = l - 1) (h1 : 1 ≤ l) (h5 : l ≤ 5) (h3 : l ≠ 3) (hc : t q = c) (hi : iop l c) (g : Rdg t k o (q + 1) f r) : Lpg t l o p (e ++ f ++ [(c, 0)]) r := by
  subst hk
  have z := iop_ne hi
  refine ⟨blE_bin h.1 g.1 hi (by omega) (by omega), fun K u => (h.2 K u).tr ((rch.one (rs_op h1 h5 hc hi)).tr ((g.2 _ _).tr (rch.one ?_)))⟩
  rw [rs_ret, rr_ls h1 h5 h3 (by omega)]
  simp
theorem Lpg.op3 {t : Int → Int} {o p q c r : Int} {e f : List (Int × Int)} (h : Lpg t 3 o p e q) (hc : t q = c) (hi : iop 3 c) (g : Rdg t 2 o (q + 1) f r) : Rdg t 3 o p (e ++ f ++ [(c, 0)]) r := by
  have z := iop_ne hi
  refine ⟨blE_bin h.1 g.1 hi (by omega) (by omega), fun K u => (h.2 K u).tr ((rch.one (rs_op (by omega) (by omega) hc hi)).tr ((g.2 _ _).tr (rch.one ?_)))⟩
  rw [rs_ret, rr_l3 (by omega)]
  simp
theorem Lpg.fl {t : Int → Int} {l k o p q c r : Int} {e : List (Int × Int)} (h : Lpg t l o p e q) (hk : k = l - 1) (h1 : 1 ≤ l) (h5 : l ≤ 5) (hc : t q = c) (hi : iop l c) (g : Flt t k o (q + 1) r) : Flt t l o p r := by
  subst hk
  exact fun K u => (h.2 K u).tr ((rch.one (rs_op h1 h5 hc hi)).tr (g _ _))
theorem Lpg.done {t : Int → Int} {l o p q : Int} {e : List (Int × Int)} (h : Lpg t l o p e q) (h1 : 1 ≤ l) (h5 : l ≤ 5) (hi : ¬ iop l (t q)) : Rdg t l o p e q := ⟨h.1, fun K u => (h.2 K u).tr (rch.one (rs_no h1 h5 hi))⟩
theorem Rdg.num {t : Int → Int} {o p q v : Int} (ho : o ≤ 6) (hd : 48 ≤ t p ∧ t p ≤ 57) (hn : nrd t 6 p 0 = (q, v)) (hq : ¬ (48 ≤ t q ∧ t q ≤ 57)) (hv : 0 ≤ v ∧ v ≤ 999999) : Rdg t 0 o p [(1, v)] q := by
  refine ⟨blE_push (Or.inl ⟨rfl, hv⟩) (by omega), fun K u => rch.one ?_⟩
  rw [rs_0]
  unfold opd
  rw [if_pos hd, hn, if_neg hq]
theorem Flt.num {t : Int → Int} {o p q v : Int} (hd : 48 ≤ t p ∧ t p ≤ 57) (hn : nrd t 6 p 0 = (q, v)) (hq : 48 ≤ t q ∧ t q ≤ 57) : Flt t 0 o p q := fun K u => rch.one (by
  rw [rs_0]
  unfold opd
  rw [if_pos hd, hn, if_pos hq])
theorem nmc_of {c : Int} (h : 0 ≤ nmc c) : 58 ≤ c ∧ nmc c ≤ 9 := by
  unfold nmc at h ⊢
  omega
theorem Rdg.name {t : Int → Int} {o p j : Int} (ho : o ≤ 6) (hn : nmc (t p) = j) (hj : 0 ≤ j) : Rdg t 0 o p [(2, j)] (p + 1) := by
  subst hn
  have z := nmc_of hj
  refine ⟨blE_push (Or.inr ⟨rfl, hj, z.2⟩) (by omega), fun K u => rch.one ?_⟩
  rw [rs_0]
  unfold opd
  rw [if_neg (by omega), if_pos hj]
theorem nmc_no {c : Int} (h : c = 33 ∨ c = 45 ∨ c = 40) : ¬ 0 ≤ nmc c := by
  rcases h with q | q | q <;> (subst q; decide)
theorem rs_un {t : Int → Int} {o p c : Int} {K u : List (Int × Int)} (ho : o < 6) (hc : t p = c) (h : c = 33 ∨ c = 45) : rstp t (0, p, o, K, u) = (0, p + 1, o + 1, (16, if c = 33 then 3 else 4) :: K, u) := by
  rw [rs_0]
  unfold opd
  rw [hc, if_neg (by omega), if_neg (nmc_no (by omega)), if_pos ⟨h, ho⟩]
theorem rs_par {t : Int → Int} {o p : Int} {K u : List (Int × Int)} (ho : o < 6) (hc : t p = 40) : rstp t (0, p, o, K, u) = (5, p + 1, o + 1, (17, 0) :: K, u) := by
  rw [rs_0]
  unfold opd
  rw [hc, if_neg (by omega), if_neg (nmc_no (by omega)), if_neg (by omega), if_pos ⟨rfl, ho⟩]
theorem Rdg.un {t : Int → Int} {o o' p c q s : Int} {e : List (Int × Int)} (ho : o < 6) (eo : o' = o + 1) (hc : t p = c) (h : c = 33 ∧ s = 3 ∨ c = 45 ∧ s = 4) (g : Rdg t 0 o' (p + 1) e q) : Rdg t 0 o p (e ++ [(s, 0)]) q := by
  subst eo
  refine ⟨(blE_un g.1 (by omega)).le (by omega), fun K u => (rch.one (rs_un ho hc (by omega))).tr ((g.2 _ u).tr (rch.one ?_))⟩
  rw [show (if c = 33 then (3 : Int) else 4) = s by omega, rs_ret]
  unfold rret
  rw [if_neg (by omega), if_pos rfl, show o + 1 - 1 = o by omega]
  simp
theorem Flt.un {t : Int → Int} {o o' p c f : Int} (ho : o < 6) (eo : o' = o + 1) (hc : t p = c) (h : c = 33 ∨ c = 45) (g : Flt t 0 o' (p + 1) f) : Flt t 0 o p f := by
  subst eo
  exact fun K u => (rch.one (rs_un ho hc h)).tr (g _ u)
theorem Rdg.par {t : Int → Int} {o o' p q : Int} {e : List (Int × Int)} (ho : o < 6) (eo : o' = o + 1) (hc : t p = 40) (g : Rdg t 5 o' (p + 1) e q) (hq : t q = 41) : Rdg t 0 o p e (q + 1) := by
  subst eo
  refine ⟨g.1.le (by omega), fun K u => (rch.one (rs_par ho hc)).tr ((g.2 _ u).tr (rch.one ?_))⟩
  rw [rs_ret]
  unfold rret
  rw [if_neg (by omega), if_neg (by omega), if_pos rfl, if_pos hq, show o + 1 - 1 = o by omega]
theorem Flt.par {t : Int → Int} {o o' p f : Int} (ho : o < 6) (eo : o' = o + 1) (hc : t p = 40) (g : Flt t 5 o' (p + 1) f) : Flt t 0 o p f := by
  subst eo
  exact fun K u => (rch.one (rs_par ho hc)).tr (g _ u)
theorem Flt.par2 {t : Int → Int} {o o' p q : Int} {e : List (Int × Int)} (ho : o < 6) (eo : o' = o + 1) (hc : t p = 40) (g : Rdg t 5 o' (p + 1) e q) (hq : t q ≠ 41) : Flt t 0 o p q := by
  subst eo
  refine fun K u => (rch.one (rs_par ho hc)).tr ((g.2 _ u).tr (rch.one ?_))
  rw [rs_ret]
  unfold rret
  rw [if_neg (by omega), if_neg (by omega), if_pos rfl, if_neg hq]
theorem Flt.no {t : Int → Int} {o p : Int} (hd : ¬ (48 ≤ t p ∧ t p ≤ 57)) (hn : nmc (t p) < 0) (h : 6 ≤ o ∨ (t p ≠ 33 ∧ t p ≠ 45 ∧ t p ≠ 40)) : Flt t 0 o p p := fun K u => rch.one (by
  rw [rs_0]
  unfold opd
  rw [if_neg hd, if_neg (by omega), if_neg (by omega), if_neg (by omega)])
/- lines: a test and a body, the test may be empty -/
def lnT (l : List (Int × Int) × List (Int × Int)) : List (Int × Int) := (if l.1 = [] then [] else l.1 ++ [(100, 0)]) ++ l.2 ++ [(101, 0)]
def flT : List (List (Int × Int) × List (Int × Int)) → List (Int × Int)
  | [] => []
  | l :: ls => lnT l ++ flT ls
theorem flT_app : ∀ (a b : List (List (Int × Int) × List (Int × Int))), flT (a ++ b) = flT a ++ flT b
  | [], b => rfl
  | l :: ls, b => by
    show lnT l ++ flT (ls ++ b) = lnT l ++ flT ls ++ flT b
    rw [flT_app ls b, List.append_assoc]
def lnG (l : List (Int × Int) × List (Int × Int)) : Prop := (l.1 = [] ∨ blE 36 l.1) ∧ blE 36 l.2
/-- so far: the lines, and what comes behind them -/
def Txh (t : Int → Int) (ls : List (List (Int × Int) × List (Int × Int))) (q : Int) : Prop := (∀ l ∈ ls, lnG l) ∧ rch t (6, 0, 0, [], []) (9, q, 0, [], flT ls)
def Txl (t : Int → Int) (ls : List (List (Int × Int) × List (Int × Int))) (q : Int) : Prop := (∀ l ∈ ls, lnG l) ∧ rch t (6, 0, 0, [], []) (6, q, 0, [], flT ls)
def Txd (t : Int → Int) (ls : List (List (Int × Int) × List (Int × Int))) : Prop := (∀ l ∈ ls, lnG l) ∧ ∃ q, rch t (6, 0, 0, [], []) (40, q, 0, [], flT ls)
def Txf (t : Int → Int) (f : Int) : Prop := rch t (6, 0, 0, [], []) (rflt f)
theorem Txl.z {t : Int → Int} : Txl t [] 0 := ⟨fun _ h => absurd h (by simp), rch.rf⟩
theorem Txl.t {t : Int → Int} {ls : List (List (Int × Int) × List (Int × Int))} {p q : Int} {e : List (Int × Int)} (h : Txl t ls p) (g : Rdg t 5 0 p e q) : rch t (6, 0, 0, [], []) (20, q, 0, [(6, 0)], flT ls ++ e) := h.2.tr ((rch.one rfl).tr (g.2 _ _))
theorem Txl.no {t : Int → Int} {ls : List (List (Int × Int) × List (Int × Int))} {p q : Int} {e : List (Int × Int)} (h : Txl t ls p) (g : Rdg t 5 0 p e q) (hq : t q ≠ 63) : Txh t (ls ++ [([], e)]) q := by
  refine ⟨fun l hl => ?_, (h.t g).tr (rch.one ?_)⟩
  · rcases List.mem_append.1 hl with k | k
    · exact h.1 l k
    · rw [List.mem_singleton] at k
      subst k
      exact ⟨Or.inl rfl, g.1⟩
  · rw [rs_ret]
    unfold rret
    rw [if_neg (by omega), if_neg (by omega), if_neg (by omega), if_pos rfl, if_neg hq, flT_app]
    simp [flT, lnT]
theorem Txl.fl {t : Int → Int} {ls : List (List (Int × Int) × List (Int × Int))} {p f : Int} (h : Txl t ls p) (g : Flt t 5 0 p f) : Txf t f := h.2.tr ((rch.one rfl).tr (g _ _))
theorem Txl.q {t : Int → Int} {ls : List (List (Int × Int) × List (Int × Int))} {p q : Int} {e : List (Int × Int)} (h : Txl t ls p) (g : Rdg t 5 0 p e q) (hq : t q = 63) : rch t (6, 0, 0, [], []) (5, q + 1, 0, [(8, 0)], flT ls ++ e ++ [(100, 0)]) := (h.t g).tr (rch.one (by
  rw [rs_ret]
  unfold rret
  rw [if_neg (by omega), if_neg (by omega), if_neg (by omega), if_pos rfl, if_pos hq]))
theorem Txl.tb {t : Int → Int} {ls : List (List (Int × Int) × List (Int × Int))} {p q r : Int} {e f : List (Int × Int)} (h : Txl t ls p) (g : Rdg t 5 0 p e q) (hq : t q = 63) (b : Rdg t 5 0 (q + 1) f r) : Txh t (ls ++ [(e, f)]) r := by
  refine ⟨fun l hl => ?_, ((h.q g hq).tr (b.2 _ _)).tr (rch.one ?_)⟩
  · rcases List.mem_append.1 hl with k | k
    · exact h.1 l k
    · rw [List.mem_singleton] at k
      subst k
      exact ⟨Or.inr g.1, b.1⟩
  · rw [rs_ret]
    unfold rret
    rw [if_neg (by omega), if_neg (by omega), if_neg (by omega), if_neg (by omega), flT_app]
    simp [flT, lnT, g.1.2.2]
theorem Txl.fb {t : Int → Int} {ls : List (List (Int × Int) × List (Int × Int))} {p q r : Int} {e : List (Int × Int)} (h : Txl t ls p) (g : Rdg t 5 0 p e q) (hq : t q = 63) (b : Flt t 5 0 (q + 1) r) : Txf t r := (h.q g hq).tr (b _ _)
theorem Txh.go {t : Int → Int} {ls : List (List (Int × Int) × List (Int × Int))} {q : Int} (h : Txh t ls q) (hq : t q = 59) : Txl t ls (q + 1) := ⟨h.1, h.2.tr (rch.one (by
  show rst t 9 q 0 [] (flT ls) = _
  unfold rst
  rw [if_neg (by omega), if_neg (by omega), if_neg (by omega), if_neg (by omega), if_neg (by omega), if_pos rfl, if_pos hq]))⟩
theorem Txh.done {t : Int → Int} {ls : List (List (Int × Int) × List (Int × Int))} {q : Int} (h : Txh t ls q) (hq : t q = -1) : Txd t ls := ⟨h.1, q, h.2.tr (rch.one (by
  show rst t 9 q 0 [] (flT ls) = _
  unfold rst
  rw [if_neg (by omega), if_neg (by omega), if_neg (by omega), if_neg (by omega), if_neg (by omega), if_pos rfl, if_neg (by omega), if_pos hq]))⟩
theorem Txh.fl {t : Int → Int} {ls : List (List (Int × Int) × List (Int × Int))} {q : Int} (h : Txh t ls q) (h1 : t q ≠ 59) (h2 : t q ≠ -1) : Txf t q := h.2.tr (rch.one (by
  show rst t 9 q 0 [] (flT ls) = _
  unfold rst
  rw [if_neg (by omega), if_neg (by omega), if_neg (by omega), if_neg (by omega), if_neg (by omega), if_pos rfl, if_neg h1, if_neg h2]))
/- the same text has one outcome -/
theorem app_cut {α : Type} {x : α} : ∀ {a a' b b' : List α}, x ∉ a → x ∉ a' → a ++ x :: b = a' ++ x :: b' → a = a' ∧ b = b'
  | [], [], _, _, _, _, h => ⟨rfl, by injection h⟩
  | [], y :: a', _, _, _, h', h => by
    injection h with e _
    exact absurd (e ▸ List.mem_cons_self) h'
  | y :: a, [], _, _, h', _, h => by
    injection h with e _
    exact absurd (e ▸ List.mem_cons_self) h'
  | y :: a, z :: a', b, b', h1, h2, h => by
    injection h with e f
    subst e
    obtain ⟨p, q⟩ := app_cut (fun k => h1 (List.mem_cons_of_mem _ k)) (fun k => h2 (List.mem_cons_of_mem _ k)) f
    exact ⟨by rw [p], q⟩
theorem tok_no {B : Int} {e : List (Int × Int)} (h : blE B e) {c : Int} (hc : 100 ≤ c ∧ c ≤ 101) : (c, (0 : Int)) ∉ e := fun k => by
  have z : (c = 1 ∧ _) ∨ (c = 2 ∧ _) ∨ ((c = 3 ∨ c = 4 ∨ c = 37 ∨ c = 38 ∨ c = 42 ∨ c = 43 ∨ c = 45 ∨ c = 47 ∨ c = 60 ∨ c = 61 ∨ c = 62 ∨ c = 124) ∧ _) := h.2.1 _ k
  omega
def lnP (l : List (Int × Int) × List (Int × Int)) : List (Int × Int) := (if l.1 = [] then [] else l.1 ++ [(100, 0)]) ++ l.2
theorem lnP_no {l : List (Int × Int) × List (Int × Int)} (h : lnG l) : ((101 : Int), (0 : Int)) ∉ lnP l := by
  unfold lnP
  intro k
  rcases List.mem_append.1 k with k | k
  · by_cases q : l.1 = []
    · rw [if_pos q] at k
      exact absurd k (by simp)
    · rw [if_neg q] at k
      rcases List.mem_append.1 k with k | k
      · exact tok_no (h.1.resolve_left q) (by omega) k
      · exact absurd k (by simp)
  · exact tok_no h.2 (by omega) k
theorem lnP_inj {a b : List (Int × Int) × List (Int × Int)} (ha : lnG a) (hb : lnG b) (h : lnP a = lnP b) : a = b := by
  obtain ⟨a1, a2⟩ := a
  obtain ⟨b1, b2⟩ := b
  unfold lnP at h
  by_cases p : a1 = [] <;> by_cases q : b1 = []
  · subst p
    subst q
    have h : a2 = b2 := by simpa using h
    rw [h]
  · subst p
    rw [if_pos rfl, if_neg q] at h
    exact absurd (show ((100 : Int), (0 : Int)) ∈ a2 by
      have h : a2 = b1 ++ [(100, 0)] ++ b2 := h
      rw [h]
      simp) (tok_no ha.2 (by omega))
  · subst q
    rw [if_neg p, if_pos rfl] at h
    exact absurd (show ((100 : Int), (0 : Int)) ∈ b2 by
      have h : a1 ++ [(100, 0)] ++ a2 = b2 := h
      rw [← h]
      simp) (tok_no hb.2 (by omega))
  · rw [if_neg p, if_neg q] at h
    have h : a1 ++ [(100, 0)] ++ a2 = b1 ++ [(100, 0)] ++ b2 := h
    rw [List.append_assoc, List.append_assoc] at h
    obtain ⟨e, f⟩ : a1 = b1 ∧ a2 = b2 := app_cut (tok_no (ha.1.resolve_left p) (by omega)) (tok_no (hb.1.resolve_left q) (by omega)) h
    subst e
    subst f
    rfl
theorem flT_inj : ∀ {a b : List (List (Int × Int) × List (Int × Int))}, (∀ l ∈ a, lnG l) → (∀ l ∈ b, lnG l) → flT a = flT b → a = b
  | [], [], _, _, _ => rfl
  | [], m :: b, _, _, h => by
    have h : [] = lnT m ++ flT b := h
    unfold lnT at h
    simp at h
  | l :: a, [], _, _, h => by
    have h : lnT l ++ flT a = [] := h
    unfold lnT at h
    simp at h
  | l :: a, m :: b, ha, hb, h => by
    have h : lnP l ++ [(101, 0)] ++ flT a = lnP m ++ [(101, 0)] ++ flT b := h
    rw [List.append_assoc, List.append_assoc] at h
    obtain ⟨e, f⟩ := app_cut (lnP_no (ha l List.mem_cons_self)) (lnP_no (hb m List.mem_cons_self)) h
    rw [lnP_inj (ha l List.mem_cons_self) (hb m List.mem_cons_self) e, flT_inj (fun x k => ha x (List.mem_cons_of_mem _ k)) (fun x k => hb x (List.mem_cons_of_mem _ k)) f]
theorem Txd_f {t : Int → Int} {ls : List (List (Int × Int) × List (Int × Int))} {f : Int} (h : Txd t ls) (g : Txf t f) : False := by
  obtain ⟨-, q, h⟩ := h
  have e := congrArg (fun s : RS => s.1) (rch_det h rdone_fix g rflt_fix)
  exact absurd (show (40 : Int) = 30 from e) (by decide)
theorem Txf_f {t : Int → Int} {f g : Int} (h : Txf t f) (k : Txf t g) : f = g := congrArg (fun s : RS => s.2.1) (rch_det h rflt_fix k rflt_fix)
theorem Txd_d {t : Int → Int} {a b : List (List (Int × Int) × List (Int × Int))} (h : Txd t a) (k : Txd t b) : a = b := by
  obtain ⟨x, p, h⟩ := h
  obtain ⟨y, q, k⟩ := k
  exact flT_inj x y (congrArg (fun s : RS => s.2.2.2.2) (rch_det h rdone_fix k rdone_fix))
end RDR
/-! WHAT A READER LEAVES: the class's steps and faults, the reference's -/
section RDC
def cdk (a : Int) : Int := if a = 1 then 0 else if a = 2 then 1 else if a = 3 then 2 else if a = 4 then 3 else if a = 42 then 4 else if a = 47 then 5 else if a = 37 then 6 else if a = 43 then 7 else if a = 45 then 8 else if a = 60 then 9 else if a = 61 then 10 else if a = 62 then 11 else if a = 38 then 12 else 13
def cod (x : Int × Int) : Int := 16 * x.2 + cdk x.1
/-- the class at a fault: it is told, or it waits at a digit still -/
def CFt (t : Int → Int) (f f' p' : Int) : Prop := 0 ≤ f ∧ (f' = f ∨ (f' = -1 ∧ p' = f ∧ 48 ≤ t f ∧ t f ≤ 57))
def COt (t : Int → Int) (l o p : Int) (u : List Int) (f' p' : Int) (u' : List Int) : Prop := (f' = -1 ∧ ∃ e, u' = u ++ e.map cod ∧ Rdg t l o p e p') ∨ ∃ f, Flt t l o p f ∧ CFt t f f' p'
def LCt (t : Int → Int) (l o p : Int) (u : List Int) (f' p' : Int) (u' : List Int) : Prop := (f' = -1 ∧ ∃ e, u' = u ++ e.map cod ∧ Lpg t l o p e p') ∨ ∃ f, Flt t l o p f ∧ CFt t f f' p'
theorem CFt.no {t : Int → Int} {f f' p' c : Int} (h : CFt t f f' p') (hf : f' = -1) (hc : t p' = c) (hn : c < 48 ∨ 57 < c) : False := by
  obtain ⟨h0, h1 | ⟨-, h2, h3, h4⟩⟩ := h
  · omega
  · rw [← h2, hc] at h3 h4
    omega
theorem iop_nd {l c : Int} (h : iop l c) : c < 48 ∨ 57 < c := by
  unfold iop at h
  omega
theorem COt.up {t : Int → Int} {l k o p f' p' : Int} {u u' : List Int} (h : COt t k o p u f' p' u') (hk : k = l - 1) (h1 : 1 ≤ l) (h5 : l ≤ 5) : LCt t l o p u f' p' u' := by
  rcases h with ⟨a, e, b, g⟩ | ⟨f, g, c⟩
  · exact Or.inl ⟨a, e, b, g.up hk h1 h5⟩
  · exact Or.inr ⟨f, g.up hk h1 h5, c⟩
theorem LCt.done {t : Int → Int} {l o p f' p' : Int} {u u' : List Int} (h : LCt t l o p u f' p' u') (h1 : 1 ≤ l) (h5 : l ≤ 5) (hn : f' = -1 → ¬ iop l (t p')) : COt t l o p u f' p' u' := by
  rcases h with ⟨a, e, b, g⟩ | ⟨f, g, c⟩
  · exact Or.inl ⟨a, e, b, g.done h1 h5 (hn a)⟩
  · exact Or.inr ⟨f, g, c⟩
theorem cod_op {c v : Int} (hv : v = cdk c) (u : List Int) (e e' : List (Int × Int)) : u ++ e.map cod ++ e'.map cod ++ [v] = u ++ (e ++ e' ++ [(c, 0)]).map cod := by
  subst hv
  simp [cod]
theorem LCt.op {t : Int → Int} {l k o o2 p p1 p2 p3 f1 f3 c v : Int} {u u1 u2 u3 u4 : List Int} (h : LCt t l o p u f1 p1 u1) (hf : f1 = -1) (hc : t p1 = c) (hi : iop l c) (h1 : 1 ≤ l) (h5 : l ≤ 5) (h3 : l ≠ 3) (g : COt t k o2 p2 u2 f3 p3 u3) (hk : k = l - 1) (eo : o2 = o) (ep : p2 = p1 + 1) (eu : u2 = u1) (ev : u4 = u3 ++ [v]) (hv : v = cdk c) : LCt t l o p u f3 p3 u4 := by
  subst eo ep eu
  rcases h with ⟨-, e, e1, a⟩ | ⟨f, a, q⟩
  · rcases g with ⟨b, e', e2, g⟩ | ⟨f, g, q⟩
    · exact Or.inl ⟨b, e ++ e' ++ [(c, 0)], by rw [ev, e2, e1]; exact cod_op hv u e e', a.op hk h1 h5 h3 hc hi g⟩
    · exact Or.inr ⟨f, a.fl hk h1 h5 hc hi g, q⟩
  · exact (q.no hf hc (iop_nd hi)).elim
theorem LCt.op3 {t : Int → Int} {o o2 p p1 p2 p3 f1 f3 c v : Int} {u u1 u2 u3 u4 : List Int} (h : LCt t 3 o p u f1 p1 u1) (hf : f1 = -1) (hc : t p1 = c) (hi : iop 3 c) (g : COt t 2 o2 p2 u2 f3 p3 u3) (eo : o2 = o) (ep : p2 = p1 + 1) (eu : u2 = u1) (ev : u4 = u3 ++ [v]) (hv : v = cdk c) : COt t 3 o p u f3 p3 u4 := by
  subst eo ep eu
  rcases h with ⟨-, e, e1, a⟩ | ⟨f, a, q⟩
  · rcases g with ⟨b, e', e2, g⟩ | ⟨f, g, q⟩
    · exact Or.inl ⟨b, e ++ e' ++ [(c, 0)], by rw [ev, e2, e1]; exact cod_op hv u e e', a.op3 hc hi g⟩
    · exact Or.inr ⟨f, a.fl (l := 3) rfl (by omega) (by omega) hc hi g, q⟩
  · exact (q.no hf hc (iop_nd hi)).elim
theorem COt.num {t : Int → Int} {o p p' v f' : Int} {u u' : List Int} (ho : o ≤ 6) (hd : 48 ≤ t p ∧ t p ≤ 57) (hn : nrd t 6 p 0 = (p', v)) (hv : 0 ≤ v ∧ v ≤ 999999) (hp : 0 ≤ p') (eu : u' = u ++ [16 * v]) (hf : f' = -1) : COt t 0 o p u f' p' u' := by
  by_cases q : 48 ≤ t p' ∧ t p' ≤ 57
  · exact Or.inr ⟨p', Flt.num hd hn q, hp, Or.inr ⟨hf, rfl, q⟩⟩
  · exact Or.inl ⟨hf, [(1, v)], by rw [eu]; simp [cod, cdk], Rdg.num ho hd hn q hv⟩
theorem COt.name {t : Int → Int} {o p p' j f' : Int} {u u' : List Int} (ho : o ≤ 6) (hn : nmc (t p) = j) (hj : 0 ≤ j) (ep : p' = p + 1) (eu : u' = u ++ [16 * j + 1]) (hf : f' = -1) : COt t 0 o p u f' p' u' := by
  subst ep
  exact Or.inl ⟨hf, [(2, j)], by rw [eu]; simp [cod, cdk], Rdg.name ho hn hj⟩
theorem COt.no {t : Int → Int} {o p p' f' : Int} {u u' : List Int} (hd : ¬ (48 ≤ t p ∧ t p ≤ 57)) (hn : nmc (t p) < 0) (h : 6 ≤ o ∨ (t p ≠ 33 ∧ t p ≠ 45 ∧ t p ≠ 40)) (hp : 0 ≤ p) (hf : f' = p) : COt t 0 o p u f' p' u' := Or.inr ⟨p, Flt.no hd hn h, hp, Or.inl hf⟩
theorem COt.un {t : Int → Int} {o o2 p p2 c f1 p1 s v : Int} {u u2 u1 u' : List Int} (ho : o < 6) (hc : t p = c) (h : c = 33 ∧ s = 3 ∨ c = 45 ∧ s = 4) (g : COt t 0 o2 p2 u2 f1 p1 u1) (eo : o2 = o + 1) (ep : p2 = p + 1) (eu : u2 = u) (ev : u' = u1 ++ [v]) (hv : v = cdk s) : COt t 0 o p u f1 p1 u' := by
  subst ep eu hv
  rcases g with ⟨b, e, e2, g⟩ | ⟨f, g, q⟩
  · exact Or.inl ⟨b, e ++ [(s, 0)], by rw [ev, e2]; simp [cod], Rdg.un ho eo hc h g⟩
  · exact Or.inr ⟨f, Flt.un ho eo hc (by omega) g, q⟩
theorem COt.par {t : Int → Int} {o o2 p p2 f1 p1 f' p' : Int} {u u2 u1 u' : List Int} (ho : o < 6) (hc : t p = 40) (g : COt t 5 o2 p2 u2 f1 p1 u1) (eo : o2 = o + 1) (ep : p2 = p + 1) (eu : u2 = u) (hp : 0 ≤ p1) (hx : (f1 = -1 ∧ t p1 = 41 ∧ f' = -1 ∧ p' = p1 + 1) ∨ (f1 ≠ -1 ∧ f' = f1) ∨ (f1 = -1 ∧ t p1 ≠ 41 ∧ f' = p1)) (ev : u' = u1) : COt t 0 o p u f' p' u' := by
  subst ep eu ev
  rcases g with ⟨b, e, e2, g⟩ | ⟨f, g, q⟩
  · rcases hx with ⟨-, h41, hf, e'⟩ | ⟨h, -⟩ | ⟨-, h41, hf⟩
    · subst e'
      exact Or.inl ⟨hf, e, e2, Rdg.par ho eo hc g h41⟩
    · exact absurd b h
    · exact Or.inr ⟨p1, Flt.par2 ho eo hc g h41, hp, Or.inl hf⟩
  · refine Or.inr ⟨f, Flt.par ho eo hc g, q.1, ?_⟩
    rcases hx with ⟨h, h41, -, -⟩ | ⟨h, hf⟩ | ⟨h, h41, hf⟩
    · exact (q.no h h41 (by omega)).elim
    · obtain ⟨-, a | ⟨a, -⟩⟩ := q
      · exact Or.inl (hf.trans a)
      · exact absurd a h
    · obtain ⟨a0, a | ⟨-, a, -⟩⟩ := q
      · omega
      · exact Or.inl (hf.trans a)
/- lines of the class: WHEN tells where its line ends -/
def cln (n : Nat) (l : List (Int × Int) × List (Int × Int)) : List Int := (if l.1 = [] then [] else l.1.map cod ++ [16 * ((n + l.1.length + l.2.length + 2 : Nat) : Int) + 14]) ++ l.2.map cod ++ [15]
def cfl : Nat → List (List (Int × Int) × List (Int × Int)) → List Int
  | _, [] => []
  | n, l :: ls => cln n l ++ cfl (n + (cln n l).length) ls
theorem cfl_app : ∀ (n : Nat) (a b : List (List (Int × Int) × List (Int × Int))), cfl n (a ++ b) = cfl n a ++ cfl (n + (cfl n a).length) b
  | n, [], b => rfl
  | n, l :: a, b => by
    show cln n l ++ cfl (n + (cln n l).length) (a ++ b) = cln n l ++ cfl (n + (cln n l).length) a ++ cfl (n + (cln n l ++ cfl (n + (cln n l).length) a).length) b
    rw [cfl_app _ a b, List.append_assoc, List.length_append, Nat.add_assoc]
theorem cfl_one (n : Nat) (l : List (Int × Int) × List (Int × Int)) : cfl n [l] = cln n l := by
  show cln n l ++ [] = cln n l
  rw [List.append_nil]
def TLt (t : Int → Int) (u : List Int) (p : Int) : Prop := ∃ ls, Txl t ls p ∧ u = cfl 0 ls
def THt (t : Int → Int) (u : List Int) (f' p' : Int) : Prop := (f' = -1 ∧ ∃ ls, Txh t ls p' ∧ u = cfl 0 ls) ∨ ∃ f, Txf t f ∧ CFt t f f' p'
def TRt (t : Int → Int) (u : List Int) (x : Int) : Prop := (x = -1 ∧ ∃ ls, Txd t ls ∧ u = cfl 0 ls) ∨ (0 ≤ x ∧ Txf t x)
theorem TLt.z {t : Int → Int} {u : List Int} {p : Int} (e : p = 0) (eu : u = []) : TLt t u p := by
  subst e eu
  exact ⟨[], Txl.z, rfl⟩
theorem TLt.no {t : Int → Int} {p p2 o f1 p1 : Int} {u u0 u1 u2 : List Int} (h : TLt t u p) (g : COt t 5 o p2 u0 f1 p1 u1) (eo : o = 0) (ep : p2 = p) (eu : u0 = u) (hn : f1 = -1 → t p1 ≠ 63) (ev : u2 = u1 ++ [15]) : THt t u2 f1 p1 := by
  subst eo ep eu
  obtain ⟨ls, hl, hu⟩ := h
  rcases g with ⟨b, e, e2, g⟩ | ⟨f, g, q⟩
  · refine Or.inl ⟨b, ls ++ [([], e)], hl.no g (hn b), ?_⟩
    rw [ev, e2, hu, cfl_app, cfl_one]
    simp [cln]
  · exact Or.inr ⟨f, hl.fl g, q⟩
theorem TLt.tb {t : Int → Int} {p p0 o o2 f1 p1 p2 f3 p3 w : Int} {u u0 u1 u2 u3 u4 u5 : List Int} {i : Nat} (h : TLt t u p) (g : COt t 5 o p0 u0 f1 p1 u1) (eo : o = 0) (e0 : p0 = p) (eu0 : u0 = u) (hf : f1 = -1) (hq : t p1 = 63) (b : COt t 5 o2 p2 u2 f3 p3 u3) (eo2 : o2 = 0) (ep : p2 = p1 + 1) (eu : u2 = u1 ++ [14]) (ev : u4 = u3 ++ [15]) (ei : i = u1.length) (ew : w = 16 * (u4.length : Int) + 14) (e5 : u5 = u4.set i w) : THt t u5 f3 p3 := by
  subst eo e0 eu0 eo2 ep
  obtain ⟨ls, hl, hu⟩ := h
  rcases g with ⟨-, e, e2, g⟩ | ⟨f, g, q⟩
  · rcases b with ⟨b, f, e3, g'⟩ | ⟨f, g', q⟩
    · refine Or.inl ⟨b, ls ++ [(e, f)], hl.tb g hq g', ?_⟩
      have hne : e ≠ [] := g.1.2.2
      rw [e5, ew, ei, ev, e3, eu, e2, hu, cfl_app, cfl_one]
      unfold cln
      rw [if_neg hne]
      have z : ∀ (A B : List Int) (x y : Int), (A ++ [x] ++ B).set A.length y = A ++ [y] ++ B := fun A B x y => by simp
      have e9 : cfl 0 ls ++ e.map cod ++ [14] ++ f.map cod ++ [15] = (cfl 0 ls ++ e.map cod) ++ [14] ++ (f.map cod ++ [15]) := by simp
      rw [e9, z]
      simp only [List.length_append, List.length_map, List.length_cons, List.length_nil, List.append_assoc, Nat.zero_add]
      congr 4
      push_cast
      omega
    · exact Or.inr ⟨f, hl.fb g hq g', q⟩
  · exact (q.no hf hq (by omega)).elim
theorem THt.go {t : Int → Int} {u : List Int} {f p p2 : Int} (h : THt t u f p) (hf : f = -1) (hq : t p = 59) (ep : p2 = p + 1) : TLt t u p2 := by
  subst ep
  rcases h with ⟨-, ls, hl, hu⟩ | ⟨g, -, q⟩
  · exact ⟨ls, hl.go hq, hu⟩
  · exact (q.no hf hq (by omega)).elim
theorem THt.end {t : Int → Int} {u : List Int} {f p n x : Int} (h : THt t u f p) (hn : f = -1 → t p ≠ 59) (hb : p < n → t p ≠ -1) (he : n ≤ p → t p = -1) (hx : (f ≠ -1 ∧ x = f) ∨ (f = -1 ∧ p < n ∧ x = p) ∨ (f = -1 ∧ n ≤ p ∧ x = -1)) (hp : 0 ≤ p) : TRt t u x := by
  rcases h with ⟨b, ls, hl, hu⟩ | ⟨g, hg, q⟩
  · rcases hx with ⟨h, -⟩ | ⟨-, h, e⟩ | ⟨-, h, e⟩
    · exact absurd b h
    · subst e
      exact Or.inr ⟨hp, hl.fl (hn b) (hb h)⟩
    · exact Or.inl ⟨e, ls, hl.done (he h), hu⟩
  · obtain ⟨g0, a | ⟨a, a1, a2, a3⟩⟩ := q
    · rcases hx with ⟨h, e⟩ | ⟨h, -⟩ | ⟨h, -⟩
      · exact Or.inr ⟨by omega, by rw [e, a]; exact hg⟩
      · omega
      · omega
    · rcases hx with ⟨h, -⟩ | ⟨-, h, e⟩ | ⟨-, h, e⟩
      · exact absurd a h
      · exact Or.inr ⟨by omega, by rw [e, a1]; exact hg⟩
      · have := he h
        rw [a1] at this
        omega
/- the reference -/
def ROt (t : Int → Int) (l o p : Int) (u : List (Int × Int)) (f' o' p' : Int) (u' : List (Int × Int)) : Prop := (f' < 0 ∧ o' = o ∧ ∃ e, u' = u ++ e ∧ Rdg t l o p e p') ∨ (0 ≤ f' ∧ Flt t l o p f')
def LOt (t : Int → Int) (l o p : Int) (u : List (Int × Int)) (f' o' p' : Int) (u' : List (Int × Int)) : Prop := (f' < 0 ∧ o' = o ∧ ∃ e, u' = u ++ e ∧ Lpg t l o p e p') ∨ (0 ≤ f' ∧ Flt t l o p f')
theorem ROt.up {t : Int → Int} {l k o p f' o' p' : Int} {u u' : List (Int × Int)} (h : ROt t k o p u f' o' p' u') (hk : k = l - 1) (h1 : 1 ≤ l) (h5 : l ≤ 5) : LOt t l o p u f' o' p' u' := by
  rcases h with ⟨a, a1, e, b, g⟩ | ⟨a, g⟩
  · exact Or.inl ⟨a, a1, e, b, g.up hk h1 h5⟩
  · exact Or.inr ⟨a, g.up hk h1 h5⟩
theorem LOt.done {t : Int → Int} {l o p f' o' p' : Int} {u u' : List (Int × Int)} (h : LOt t l o p u f' o' p' u') (h1 : 1 ≤ l) (h5 : l ≤ 5) (hn : f' < 0 → ¬ iop l (t p')) : ROt t l o p u f' o' p' u' := by
  rcases h with ⟨a, a1, e, b, g⟩ | ⟨a, g⟩
  · exact Or.inl ⟨a, a1, e, b, g.done h1 h5 (hn a)⟩
  · exact Or.inr ⟨a, g⟩
theorem LOt.op {t : Int → Int} {l k o o1 o2 o3 o4 p p1 p2 p3 p4 f1 f3 f4 c z : Int} {u u1 u2 u3 u4 : List (Int × Int)} (h : LOt t l o p u f1 o1 p1 u1) (hf : f1 < 0) (hc : t p1 = c) (hi : iop l c) (h1 : 1 ≤ l) (h5 : l ≤ 5) (h3 : l ≠ 3) (g : ROt t k o2 p2 u2 f3 o3 p3 u3) (hk : k = l - 1) (eo : o2 = o1) (ep : p2 = p1 + 1) (eu : u2 = u1) (ev : u4 = u3 ++ [(c, z)]) (hz : z = 0) (e4 : f4 = f3 ∧ o4 = o3 ∧ p4 = p3) : LOt t l o p u f4 o4 p4 u4 := by
  obtain ⟨e4, e5, e6⟩ := e4
  subst eo ep eu hz e4 e5 e6
  rcases h with ⟨-, a1, e, e1, a⟩ | ⟨a, -⟩
  · subst a1
    rcases g with ⟨b, b1, e', e2, g⟩ | ⟨b, g⟩
    · exact Or.inl ⟨b, b1, e ++ e' ++ [(c, 0)], by rw [ev, e2, e1]; simp, a.op hk h1 h5 h3 hc hi g⟩
    · exact Or.inr ⟨b, a.fl hk h1 h5 hc hi g⟩
  · omega
theorem LOt.op3 {t : Int → Int} {o o1 o2 o3 o4 p p1 p2 p3 p4 f1 f3 f4 c z : Int} {u u1 u2 u3 u4 : List (Int × Int)} (h : LOt t 3 o p u f1 o1 p1 u1) (hf : f1 < 0) (hc : t p1 = c) (hi : iop 3 c) (g : ROt t 2 o2 p2 u2 f3 o3 p3 u3) (eo : o2 = o1) (ep : p2 = p1 + 1) (eu : u2 = u1) (ev : u4 = u3 ++ [(c, z)]) (hz : z = 0) (e4 : f4 = f3 ∧ o4 = o3 ∧ p4 = p3) : ROt t 3 o p u f4 o4 p4 u4 := by
  obtain ⟨e4, e5, e6⟩ := e4
  subst eo ep eu hz e4 e5 e6
  rcases h with ⟨-, a1, e, e1, a⟩ | ⟨a, -⟩
  · subst a1
    rcases g with ⟨b, b1, e', e2, g⟩ | ⟨b, g⟩
    · exact Or.inl ⟨b, b1, e ++ e' ++ [(c, 0)], by rw [ev, e2, e1]; simp, a.op3 hc hi g⟩
    · exact Or.inr ⟨b, a.fl (l := 3) rfl (by omega) (by omega) hc hi g⟩
  · omega
theorem ROt.num {t : Int → Int} {o p p' v z f' o' : Int} {u u' : List (Int × Int)} (ho : o ≤ 6) (hd : 48 ≤ t p ∧ t p ≤ 57) (hn : nrd t 6 p 0 = (p', v)) (hv : 0 ≤ v ∧ v ≤ 999999) (ev : u' = u ++ [(1, z)]) (hz : z = v) (eo : o' = o) (hx : (48 ≤ t p' ∧ t p' ≤ 57) ∧ 0 ≤ f' ∧ f' = p' ∨ ¬ (48 ≤ t p' ∧ t p' ≤ 57) ∧ f' < 0) : ROt t 0 o p u f' o' p' u' := by
  subst hz
  rcases hx with ⟨q, a, b⟩ | ⟨q, a⟩
  · refine Or.inr ⟨a, ?_⟩
    rw [b]
    exact Flt.num hd hn q
  · exact Or.inl ⟨a, eo, [(1, z)], ev, Rdg.num ho hd hn q hv⟩
theorem ROt.name {t : Int → Int} {o p p' j z f' o' : Int} {u u' : List (Int × Int)} (ho : o ≤ 6) (hn : nmc (t p) = j) (hj : 0 ≤ j) (ep : p' = p + 1) (ev : u' = u ++ [(2, z)]) (hz : z = j) (eo : o' = o) (hf : f' < 0) : ROt t 0 o p u f' o' p' u' := by
  subst ep hz
  exact Or.inl ⟨hf, eo, [(2, z)], ev, Rdg.name ho hn hj⟩
theorem ROt.no {t : Int → Int} {o p p' f' o' : Int} {u u' : List (Int × Int)} (hd : ¬ (48 ≤ t p ∧ t p ≤ 57)) (hn : nmc (t p) < 0) (h : 6 ≤ o ∨ (t p ≠ 33 ∧ t p ≠ 45 ∧ t p ≠ 40)) (hp : 0 ≤ p) (hf : f' = p) : ROt t 0 o p u f' o' p' u' := Or.inr ⟨by omega, by rw [hf]; exact Flt.no hd hn h⟩
theorem ROt.un {t : Int → Int} {o o2 p p2 c f1 o1 p1 s z o' f' p' w : Int} {u u2 u1 u' : List (Int × Int)} (ho : o < 6) (hc : t p = c) (h : c = 33 ∧ s = 3 ∨ c = 45 ∧ s = 4) (g : ROt t 0 o2 p2 u2 f1 o1 p1 u1) (eo : o2 = o + 1) (ep : p2 = p + 1) (eu : u2 = u) (ev : u' = u1 ++ [(w, z)]) (hw : w = s) (hz : z = 0) (e4 : f' = f1 ∧ p' = p1) (e5 : f1 < 0 → o' = o1 - 1) : ROt t 0 o p u f' o' p' u' := by
  obtain ⟨e4, e6⟩ := e4
  subst ep eu hz e4 e6 hw
  rcases g with ⟨b, b1, e, e2, g⟩ | ⟨b, g⟩
  · exact Or.inl ⟨b, by have := e5 b; omega, e ++ [(w, 0)], by rw [ev, e2]; simp, Rdg.un ho eo hc h g⟩
  · exact Or.inr ⟨b, Flt.un ho eo hc (by omega) g⟩
theorem ROt.par {t : Int → Int} {o o2 p p2 f1 o1 p1 f' o' p' : Int} {u u2 u1 u' : List (Int × Int)} (ho : o < 6) (hc : t p = 40) (g : ROt t 5 o2 p2 u2 f1 o1 p1 u1) (eo : o2 = o + 1) (ep : p2 = p + 1) (eu : u2 = u) (hp : 0 ≤ p1) (hx : (f1 < 0 ∧ t p1 = 41 ∧ f' = f1 ∧ p' = p1 + 1 ∧ o' = o1 - 1) ∨ (0 ≤ f1 ∧ f' = f1) ∨ (f1 < 0 ∧ t p1 ≠ 41 ∧ f' = p1)) (ev : u' = u1) : ROt t 0 o p u f' o' p' u' := by
  subst ep eu ev
  rcases g with ⟨b, b1, e, e2, g⟩ | ⟨b, g⟩
  · rcases hx with ⟨-, h41, hf, e', e6⟩ | ⟨h, -⟩ | ⟨-, h41, hf⟩
    · subst e' hf
      exact Or.inl ⟨b, by omega, e, e2, Rdg.par ho eo hc g h41⟩
    · omega
    · exact Or.inr ⟨by omega, by rw [hf]; exact Flt.par2 ho eo hc g h41⟩
  · rcases hx with ⟨h, -⟩ | ⟨h, hf⟩ | ⟨h, -⟩
    · omega
    · exact Or.inr ⟨by omega, by rw [hf]; exact Flt.par ho eo hc g⟩
    · omega
end RDC
/-! THE READER OF THE CLASS, exactly; printed by program but for its head -/
section TCH
def tC (h : aH) : Int → Int := fun p => if 0 ≤ p ∧ p < fO h 5 1 then gI h 6 p else -1
def tkC (h : aH) : List Int := ((arI h 7).take (fO h 5 5).toNat).map Int32.toInt
theorem tC_un {W : List Nat} {h h' : aH} {t : Int → Int} (hO : OK h) (hO' : OK h') (g : un W h h') (w1 : 1501 ∉ W) (w2 : 6 ∉ W) (e : tC h = t) : tC h' = t := by
  rw [← e]
  funext p
  unfold tC
  rw [fO_keep (a := 5) (k := 1) (ci := 8) (n := 6) hO hO' g (by decide) rfl (by decide) rfl w1, gI_keep (a := 6) (kd := 0) (n := 120) hO g p (by decide) rfl (by decide) rfl (by decide) w2]
theorem tC_in {h : aH} {t : Int → Int} {xs : List Int32} {kd : Nat} {j z : Int32} {q : Int} (e : tC h = t) (hc : h[6]? = some (.inr (kd, .inl xs))) (hx : xs[j.toInt.toNat]? = some z) (hq : q = j.toInt) (h0 : 0 ≤ q) (h1 : q < fO h 5 1) : z.toInt = t q := by
  subst hq
  rw [← e]
  unfold tC
  rw [if_pos ⟨h0, h1⟩, gI_of hc hx]
theorem tC_out {h : aH} {t : Int → Int} {q : Int} (e : tC h = t) (h1 : q < 0 ∨ fO h 5 1 ≤ q) : t q = -1 := by
  rw [← e]
  unfold tC
  rw [if_neg (by omega)]
theorem tkC_put {h h' : aH} (e : ∀ b, b ≠ 5 → h'[b]? = h[b]?) (f : fO h' 5 5 = fO h 5 5) : tkC h' = tkC h := by
  unfold tkC
  rw [arI_c (e 7 (by decide)), f]
theorem ar7_len {h : aH} (hO : OK h) : (arI h 7).length = 128 := by
  obtain ⟨xs, hc, hn, -⟩ := hO.int (hO.fix 7 (by decide) rfl)
  rw [arI_of hc]
  exact hn
theorem tk_set {α : Type} {L : List α} {n : Nat} {x : α} (hn : n < L.length) : (L.set n x).take (n + 1) = L.take n ++ [x] := by
  apply List.ext_getElem?
  intro k
  have e : (L.take n).length = n := by rw [List.length_take]; omega
  rw [List.getElem?_take, List.getElem?_append, e]
  by_cases q : k < n
  · rw [if_pos (by omega), if_pos q, List.getElem?_take, if_pos q, List.getElem?_set_ne (by omega)]
  · rw [if_neg q]
    by_cases r : k = n
    · subst r
      rw [if_pos (by omega), List.getElem?_set_self hn, Nat.sub_self]
      rfl
    · rw [if_neg (by omega)]
      exact (List.getElem?_eq_none (by rw [List.length_singleton]; omega)).symm
theorem tkC_add {h h1 h' : aH} {j X : Int32} {v : Int} (hO : OK h) (w : wI h h1 7 ((arI h 7).set j.toInt.toNat X)) (e : ∀ b, b ≠ 5 → h'[b]? = h1[b]?) (hj : fO h 5 5 = j.toInt) (h0 : 0 ≤ fO h 5 5 ∧ fO h 5 5 < 128) (f : fO h' 5 5 = fO h 5 5 + 1) (hx : X.toInt = v) : tkC h' = tkC h ++ [v] := by
  have l := ar7_len hO
  unfold tkC
  rw [arI_c (e 7 (by decide)), w.1, f, ← hj, show (fO h 5 5 + 1).toNat = (fO h 5 5).toNat + 1 by omega, tk_set (by omega), List.map_append]
  subst hx
  rfl
theorem tkC_len {h : aH} (hO : OK h) (h0 : 0 ≤ fO h 5 5 ∧ fO h 5 5 ≤ 128) : (tkC h).length = (fO h 5 5).toNat := by
  unfold tkC
  rw [List.length_map, List.length_take, ar7_len hO]
  omega
theorem tkC_set {h h1 : aH} {j X : Int32} {v : Int} {i : Nat} (w : wI h h1 7 ((arI h 7).set j.toInt.toNat X)) (hi : i = j.toInt.toNat) (hx : X.toInt = v) : tkC h1 = (tkC h).set i v := by
  subst hi hx
  have f : fO h1 5 5 = fO h 5 5 := by
    unfold fO
    rw [w.2 5 (by decide)]
  unfold tkC
  rw [w.1, f, List.take_set, List.map_set]
theorem tkC_nil {h : aH} (f : fO h 5 5 = 0) : tkC h = [] := by
  unfold tkC
  rw [f]
  rfl
theorem stpV {a v x z : Int32} (e1 : v <<< ((4 : Int32) &&& 31) = x) (e2 : x ||| a = z) (ha : 0 ≤ a.toInt ∧ a.toInt ≤ 15) (hv : 0 ≤ v.toInt ∧ v.toInt ≤ 999999) : z.toInt = 16 * v.toInt + a.toInt := by
  have ca : a.toInt = if 2 * a.toBitVec.toNat < 2 ^ 32 then (a.toBitVec.toNat : Int) else (a.toBitVec.toNat : Int) - ((2 ^ 32 : Nat) : Int) := BitVec.toInt_eq_toNat_cond _
  have cv : v.toInt = if 2 * v.toBitVec.toNat < 2 ^ 32 then (v.toBitVec.toNat : Int) else (v.toBitVec.toNat : Int) - ((2 ^ 32 : Nat) : Int) := BitVec.toInt_eq_toNat_cond _
  have cz : z.toInt = if 2 * z.toBitVec.toNat < 2 ^ 32 then (z.toBitVec.toNat : Int) else (z.toBitVec.toNat : Int) - ((2 ^ 32 : Nat) : Int) := BitVec.toInt_eq_toNat_cond _
  have na := a.toBitVec.isLt
  have nv := v.toBitVec.isLt
  have ea : (a.toBitVec.toNat : Int) = a.toInt := by split at ca <;> omega
  have ev : (v.toBitVec.toNat : Int) = v.toInt := by split at cv <;> omega
  have hx : x.toBitVec.toNat = v.toBitVec.toNat * 16 := by
    rw [← e1, show ((4 : Int32) &&& 31) = 4 by decide, pk_shl v 4 4 (by decide)]
    omega
  have hz : z.toBitVec.toNat = v.toBitVec.toNat * 16 + a.toBitVec.toNat := by
    rw [← e2, Int32.toBitVec_or, BitVec.toNat_or, hx, show v.toBitVec.toNat * 16 = v.toBitVec.toNat <<< 4 by rw [Nat.shiftLeft_eq], ← Nat.shiftLeft_add_eq_or_of_lt (by omega)]
  rw [cz, if_pos (by omega), hz]
  omega
/- digits -/
def nbd (i v : Int) : Prop := 0 ≤ v ∧ v < (10 : Int) ^ i.toNat
theorem nbd_0 {i v : Int} (e : i = 0) (ev : v = 0) : nbd i v := by
  subst e ev
  exact ⟨by decide, by decide⟩
theorem nbd_s {i i' v v' d : Int} (h : nbd i v) (h0 : 0 ≤ i) (e : i' = i + 1) (ev : v' = 10 * v + d) (hd : 0 ≤ d ∧ d ≤ 9) : nbd i' v' := by
  subst e ev
  obtain ⟨a, b⟩ := h
  unfold nbd
  rw [show (i + 1).toNat = i.toNat + 1 by omega, Int.pow_succ]
  generalize (10 : Int) ^ i.toNat = P at b ⊢
  omega
theorem nbd_le {i v : Int} (h : nbd i v) (h0 : 0 ≤ i) (h6 : i ≤ 6) : 0 ≤ v ∧ v ≤ 999999 ∧ (i ≤ 5 → v ≤ 99999) := by
  obtain ⟨a, b⟩ := h
  obtain e | e | e | e | e | e | e : i = 0 ∨ i = 1 ∨ i = 2 ∨ i = 3 ∨ i = 4 ∨ i = 5 ∨ i = 6 := by omega
  all_goals
    subst e
    simp at b
    omega
theorem nrd_s {t : Int → Int} {k : Nat} {p p' v v' c : Int} (hc : t p = c) (hd : 48 ≤ c ∧ c ≤ 57) (ep : p' = p + 1) (ev : v' = 10 * v + c - 48) : nrd t (k + 1) p v = nrd t k p' v' := by
  subst ep ev hc
  show (if 48 ≤ t p ∧ t p ≤ 57 then nrd t k (p + 1) (10 * v + t p - 48) else (p, v)) = _
  rw [if_pos hd]
theorem nrd_e {t : Int → Int} {k : Nat} {p v : Int} (h : k = 0 ∨ ¬ (48 ≤ t p ∧ t p ≤ 57)) : nrd t k p v = (p, v) := by
  cases k with
  | zero => rfl
  | succ k =>
    show (if 48 ≤ t p ∧ t p ≤ 57 then nrd t k (p + 1) (10 * v + t p - 48) else (p, v)) = _
    rw [if_neg (by omega)]
def nrX (t : Int → Int) (p0 i p v : Int) : Prop := nrd t 6 p0 0 = nrd t (6 - i).toNat p v ∧ nbd i v
theorem nrX_0 {t : Int → Int} {p0 i p v : Int} (e : i = 0) (ep : p = p0) (ev : v = 0) : nrX t p0 i p v := by
  subst e ep ev
  exact ⟨rfl, nbd_0 rfl rfl⟩
theorem nrX_s {t : Int → Int} {p0 i i' p p' v v' c : Int} (h : nrX t p0 i p v) (h0 : 0 ≤ i ∧ i ≤ 5) (hc : t p = c) (hd : 48 ≤ c ∧ c ≤ 57) (ei : i' = i + 1) (ep : p' = p + 1) (ev : v' = 10 * v + c - 48) : nrX t p0 i' p' v' := by
  obtain ⟨a, b⟩ := h
  refine ⟨a.trans ?_, nbd_s b h0.1 ei (d := c - 48) (by omega) (by omega)⟩
  rw [show (6 - i).toNat = (6 - i').toNat + 1 by omega]
  exact nrd_s hc hd ep ev
theorem nrX_e {t : Int → Int} {p0 i p v : Int} (h : nrX t p0 i p v) (h0 : 0 ≤ i ∧ i ≤ 6) (he : i = 6 ∨ ¬ (48 ≤ t p ∧ t p ≤ 57)) : nrd t 6 p0 0 = (p, v) ∧ 0 ≤ v ∧ v ≤ 999999 := by
  obtain ⟨a, b⟩ := h
  have c := nbd_le b h0.1 h0.2
  exact ⟨a.trans (nrd_e (by omega)), c.1, c.2.1⟩
theorem nrX.c {t : Int → Int} {p0 i p p2 v : Int} (h : nrX t p0 i p v) (ep : p2 = p) : nrX t p0 i p2 v := by
  subst ep
  exact h
theorem ix_nm {x z : Int32} (e : ixF x lNm 0 = z) (h : 97 ≤ x.toInt ∧ x.toInt ≤ 122) : z.toInt = nmc x.toInt := by
  have k : ∀ n : Fin 26, (ixF (Int32.ofInt (97 + (n.val : Int))) lNm 0).toInt = nmc (97 + (n.val : Int)) := by decide
  have g := k ⟨(x.toInt - 97).toNat, by omega⟩
  have q : (97 : Int) + (((x.toInt - 97).toNat : Nat) : Int) = x.toInt := by omega
  simp only [q, Int32.ofInt_toInt] at g
  rw [← e]
  exact g
theorem nmc_lo {c : Int} (h : ¬ (97 ≤ c ∧ c ≤ 122)) : nmc c = -1 := by
  unfold nmc
  omega
/- the same, said of other names -/
theorem LCt.cast {t : Int → Int} {l o p f p' f2 p2 : Int} {u u' u2 : List Int} (h : LCt t l o p u f p' u') (ef : f2 = f) (ep : p2 = p') (eu : u2 = u') : LCt t l o p u f2 p2 u2 := by
  subst ef ep eu
  exact h
theorem COt.cast {t : Int → Int} {l o p f p' f2 p2 : Int} {u u' u2 : List Int} (h : COt t l o p u f p' u') (ef : f2 = f) (ep : p2 = p') (eu : u2 = u') : COt t l o p u f2 p2 u2 := by
  subst ef ep eu
  exact h
theorem COt.nm {t : Int → Int} {o p p' f' : Int} {u u' : List Int} (h : ∃ v, (nrd t 6 p 0 = (p', v) ∧ 0 ≤ v ∧ v ≤ 999999) ∧ u' = u ++ [16 * v]) (ho : o ≤ 6) (hd : 48 ≤ t p ∧ t p ≤ 57) (hp : 0 ≤ p') (hf : f' = -1) : COt t 0 o p u f' p' u' := by
  obtain ⟨v, ⟨a, b⟩, c⟩ := h
  exact COt.num ho hd a b hp c hf
theorem tkC_16 {u u' : List Int} {v a w : Int} (e : u' = u ++ [16 * v + a]) (ha : a = w) : u' = u ++ [16 * v + w] := by
  subst ha
  exact e
set_option maxRecDepth 20000 in
set_option maxHeartbeats 4000000 in
theorem st_X8_here {d kc ks : Nat} {h0 : aH} {Q : Option aV → aH → Prop} {t : Int → Int} (hO0 : OK h0)  (pre0 : tC h0 = t) (hQ : ∀ r, (∃ x : Int32, r = some (.inl x) ∧ (x.toInt = t (fO h0 5 2) ∧ (x.toInt = -1 ∨ 0 ≤ fO h0 5 2 ∧ fO h0 5 2 < fO h0 5 1))) → Q r h0) : uCall Mt (d + 1) 95 [(.inr (.inr (some 5)))] h0 kc ks Q := by
  have l_m1 : ((-1) : Int32).toInt = -1 := by decide
  have l_0 : ((0) : Int32).toInt = 0 := by decide
  refine uc_ink [some (.inr (.inr (some 5)))] mt_95 (Nat.le_of_ble_eq_true rfl) rfl ?_
  obtain ⟨f2, f3, f4, f5, hc1, k6⟩ := ok_5 hO0
  have t7 := fO_of (k := 1) hc1 rfl
  have t8 := fO_of (k := 2) hc1 rfl
  have t9 := fO_of (k := 3) hc1 rfl
  have t10 := fO_of (k := 5) hc1 rfl
  refine ur_ldA rfl rfl ?_
  refine ur_get rfl hc1 rfl ?_
  refine ur_if1 rfl (fun c11 => ?_) (fun c11 => ?_)
  · have t12 := lt_to c11
    have t13 := tC_out (q := fO h0 5 2) pre0 (by omega)
    refine ur_push rfl ?_
    exact ur_ret rfl rfl (hQ _ ⟨_, rfl, by omega⟩ )
  · have t14 := lt_no c11
    refine ur_ldA rfl rfl ?_
    refine ur_get rfl hc1 rfl ?_
    refine ur_ldA rfl rfl ?_
    refine ur_get rfl hc1 rfl ?_
    have z15 := any_r f3
    have z16 := any_r f2
    refine ur_if2 rfl (fun c17 => ?_) (fun c17 => ?_)
    · have t18 := le_to c17
      have t19 := tC_out (q := fO h0 5 2) pre0 (by omega)
      refine ur_push rfl ?_
      exact ur_ret rfl rfl (hQ _ ⟨_, rfl, by omega⟩ )
    · have t20 := le_no c17
      refine ur_ldA rfl rfl ?_
      refine ur_get rfl hc1 rfl ?_
      refine ur_ldA rfl rfl ?_
      refine ur_get rfl hc1 rfl ?_
      obtain ⟨xs22, hc21, hn23, he24⟩ := hO0.int (hO0.fix 6 (by decide) rfl)
      refine ur_aldV rfl hc21 hn23 (by omega) (fun x25 hx26 => ?_)
      have t27 := tC_in (q := fO h0 5 2) pre0 hc21 hx26 (by omega) (by omega) (by omega)
      refine ur_go rfl ?_
      exact ur_ret rfl rfl (hQ _ ⟨_, rfl, by omega⟩ )

set_option maxRecDepth 20000 in
set_option maxHeartbeats 4000000 in
theorem st_X8_take {d kc ks : Nat} {h0 : aH} {Q : Option aV → aH → Prop} {t : Int → Int} (hO0 : OK h0) (a1 : Int32) (b1 : 33 ≤ a1.toInt ∧ a1.toInt ≤ 124) (pre0 : tC h0 = t) (pre1 : 0 ≤ fO h0 5 2) (hQ : ∀ r h', (∃ q, r = some (.inl (bi q)) ∧ (q = true → t (fO h0 5 2) = a1.toInt ∧ 0 ≤ fO h0 5 2 ∧ fO h0 5 2 < fO h0 5 1 ∧ fO h' 5 2 = fO h0 5 2 + 1) ∧ (q = false → t (fO h0 5 2) ≠ a1.toInt ∧ fO h' 5 2 = fO h0 5 2)) → OK h' → un [] h0 h' → (fO h' 5 1 = fO h0 5 1 ∧ fO h' 5 3 = fO h0 5 3 ∧ fO h' 5 5 = fO h0 5 5) → (tkC h' = tkC h0) → Q r h') : uCall Mt (d + 2) 96 [(.inr (.inr (some 5))), (.inl a1)] h0 kc ks Q := by
  have l_0 : ((0) : Int32).toInt = 0 := by decide
  have l_1 : ((1) : Int32).toInt = 1 := by decide
  refine uc_ink [some (.inr (.inr (some 5))), some (.inl a1)] mt_96 (Nat.le_of_ble_eq_true rfl) rfl ?_
  obtain ⟨f2, f3, f4, f5, hc1, k6⟩ := ok_5 hO0
  have t7 := fO_of (k := 1) hc1 rfl
  have t8 := fO_of (k := 2) hc1 rfl
  have t9 := fO_of (k := 3) hc1 rfl
  have t10 := fO_of (k := 5) hc1 rfl
  refine ur_ldA rfl rfl ?_
  refine ur_inl rfl (rcv_of hc1) (Nat.le_of_ble_eq_true rfl) (Nat.le_of_ble_eq_true rfl) (st_X8_here hO0 pre0 (fun w11 hr12 => ?_))
  obtain ⟨x13, rfl, t14⟩ := hr12
  show uRun _ (uCall Mt _) _ 4 (_, [(.inl x13)], _, _, _)
  refine ur_ldI rfl rfl ?_
  have z15 := any_r x13
  have z16 := any_r a1
  refine ur_if2 rfl (fun c17 => ?_) (fun c17 => ?_)
  · have t18 := eq_to c17
    refine ur_ldA rfl rfl ?_
    refine ur_dup rfl rfl ?_
    refine ur_get rfl hc1 rfl ?_
    refine ur_push rfl ?_
    refine ur_binV rfl (fun x19 e20 => ?_)
    have z21 := any_r f3
    have t22 := ti_add e20 (by omega) (by omega)
    refine ur_putV (W := []) (fs' := [(.inr (.inr (some 6))), (.inl f2), (.inl x19), (.inl f4), (.inr (.inr (some 7))), (.inl f5)]) rfl hO0 hc1 (Nat.le_of_ble_eq_true rfl) rfl rfl ⟨rfl, _, _, _, _, rfl, by omega⟩ rfl (Or.inl rfl) (fun h24 hO24 hu24 d23 hc25 => ?_)
    refine ur_push rfl ?_
    have t26 := fO_of (k := 1) hc25 rfl
    have t27 := fO_of (k := 2) hc25 rfl
    have t28 := fO_of (k := 3) hc25 rfl
    have t29 := fO_of (k := 5) hc25 rfl
    exact ur_ret rfl rfl (hQ _ _ ⟨true, rfl, fun _ => by omega, fun e => absurd e (by decide)⟩ hO24 hu24 (by omega) (tkC_put d23 (by omega)))
  · have t30 := eq_no c17
    refine ur_push rfl ?_
    exact ur_ret rfl rfl (hQ _ _ ⟨false, rfl, fun e => absurd e (by decide), fun _ => by omega⟩ hO0 un.rf (by omega) rfl)

set_option maxRecDepth 20000 in
set_option maxHeartbeats 4000000 in
theorem st_X8_isGoingOn {d kc ks : Nat} {h0 : aH} {Q : Option aV → aH → Prop} {t : Int → Int} (hO0 : OK h0) (a1 : Int32) (b1 : 33 ≤ a1.toInt ∧ a1.toInt ≤ 124) (pre0 : tC h0 = t) (pre1 : 0 ≤ fO h0 5 2) (hQ : ∀ r h', (∃ q, r = some (.inl (bi q)) ∧ (q = true → fO h0 5 3 = -1 ∧ t (fO h0 5 2) = a1.toInt ∧ 0 ≤ fO h0 5 2 ∧ fO h0 5 2 < fO h0 5 1 ∧ fO h' 5 2 = fO h0 5 2 + 1) ∧ (q = false → (fO h0 5 3 ≠ -1 ∨ t (fO h0 5 2) ≠ a1.toInt) ∧ fO h' 5 2 = fO h0 5 2)) → OK h' → un [] h0 h' → (fO h' 5 1 = fO h0 5 1 ∧ fO h' 5 3 = fO h0 5 3 ∧ fO h' 5 5 = fO h0 5 5) → (tkC h' = tkC h0) → Q r h') : uCall Mt (d + 3) 97 [(.inr (.inr (some 5))), (.inl a1)] h0 kc ks Q := by
  have l_m1 : ((-1) : Int32).toInt = -1 := by decide
  have l_0 : ((0) : Int32).toInt = 0 := by decide
  have l_1 : ((1) : Int32).toInt = 1 := by decide
  refine uc_ink [some (.inr (.inr (some 5))), some (.inl a1)] mt_97 (Nat.le_of_ble_eq_true rfl) rfl ?_
  obtain ⟨f2, f3, f4, f5, hc1, k6⟩ := ok_5 hO0
  have t7 := fO_of (k := 1) hc1 rfl
  have t8 := fO_of (k := 2) hc1 rfl
  have t9 := fO_of (k := 3) hc1 rfl
  have t10 := fO_of (k := 5) hc1 rfl
  refine ur_ldA rfl rfl ?_
  refine ur_get rfl hc1 rfl ?_
  refine ur_push rfl ?_
  refine ur_if2 rfl (fun c11 => ?_) (fun c11 => ?_)
  · have t12 := ne_to c11
    refine ur_push rfl ?_
    exact ur_ret rfl rfl (hQ _ _ ⟨false, rfl, fun e => absurd e (by decide), fun _ => by omega⟩ hO0 un.rf (by omega) rfl)
  · have t13 := ne_no c11
    refine ur_ldA rfl rfl ?_
    refine ur_ldI rfl rfl ?_
    refine ur_inl rfl (rcv_of hc1) (Nat.le_of_ble_eq_true rfl) (Nat.le_of_ble_eq_true rfl) (st_X8_take hO0 _ (by show 33 ≤ a1.toInt ∧ a1.toInt ≤ 124; omega) pre0 (by omega) (fun w14 h18 hr15 hO18 hv18 hp16 hp17 => ?_))
    have hu18 := hv18
    obtain ⟨b19, rfl, t20, t21⟩ := hr15
    show uRun _ (uCall Mt _) _ 13 (_, [(.inl (bi b19))], _, _, _)
    refine ur_eqB rfl (fun c22 => ?_) (fun c22 => ?_)
    · have t23 := t21 c22
      clear t20 t21
      refine ur_push rfl ?_
      obtain ⟨f25, f26, f27, f28, hc24, k29⟩ := ok_5 hO18
      have t30 := fO_of (k := 1) hc24 rfl
      have t31 := fO_of (k := 2) hc24 rfl
      have t32 := fO_of (k := 3) hc24 rfl
      have t33 := fO_of (k := 5) hc24 rfl
      exact ur_ret rfl rfl (hQ _ _ ⟨false, rfl, fun e => absurd e (by decide), fun _ => by omega⟩ hO18 hu18 (by omega) hp17)
    · have t34 := t20 c22
      clear t20 t21
      refine ur_push rfl ?_
      refine ur_go rfl ?_
      obtain ⟨f36, f37, f38, f39, hc35, k40⟩ := ok_5 hO18
      have t41 := fO_of (k := 1) hc35 rfl
      have t42 := fO_of (k := 2) hc35 rfl
      have t43 := fO_of (k := 3) hc35 rfl
      have t44 := fO_of (k := 5) hc35 rfl
      exact ur_ret rfl rfl (hQ _ _ ⟨true, rfl, fun _ => by omega, fun e => absurd e (by decide)⟩ hO18 hu18 (by omega) hp17)

set_option maxRecDepth 20000 in
set_option maxHeartbeats 4000000 in
theorem st_X9_step {d kc ks : Nat} {h0 : aH} {Q : Option aV → aH → Prop} (a0 : Int32) (b0 : 0 ≤ a0.toInt ∧ a0.toInt ≤ 15) (a1 : Int32) (b1 : 0 ≤ a1.toInt ∧ a1.toInt ≤ 999999) (hQ : ∀ r, (∃ x : Int32, r = some (.inl x) ∧ (x.toInt = 16 * a1.toInt + a0.toInt)) → Q r h0) : uCall Mt (d + 1) 111 [(.inl a0), (.inl a1)] h0 kc ks Q := by
  have l_4 : ((4) : Int32).toInt = 4 := by decide
  refine uc_ink [some (.inl a0), some (.inl a1)] mt_111 (Nat.le_of_ble_eq_true rfl) rfl ?_
  refine ur_ldI rfl rfl ?_
  refine ur_push rfl ?_
  refine ur_binV rfl (fun x1 e2 => ?_)
  refine ur_ldI rfl rfl ?_
  refine ur_binV rfl (fun x3 e4 => ?_)
  exact ur_ret rfl rfl (hQ _ ⟨_, rfl, stpV e2 e4 (by omega) (by omega)⟩ )

set_option maxRecDepth 20000 in
set_option maxHeartbeats 4000000 in
theorem st_X8_add {d kc ks : Nat} {h0 : aH} {Q : Option aV → aH → Prop} (hO0 : OK h0) (a1 : Int32) (b1 : 0 ≤ a1.toInt ∧ a1.toInt ≤ 15) (a2 : Int32) (b2 : 0 ≤ a2.toInt ∧ a2.toInt ≤ 999999) (pre0 : 0 ≤ fO h0 5 5 ∧ fO h0 5 5 < 128) (hQ : ∀ r h', (r = none) → OK h' → un [] h0 h' → (fO h' 5 1 = fO h0 5 1 ∧ fO h' 5 2 = fO h0 5 2 ∧ fO h' 5 3 = fO h0 5 3 ∧ fO h' 5 5 = fO h0 5 5 + 1) → (tkC h' = tkC h0 ++ [16 * a2.toInt + a1.toInt]) → Q r h') : uCall Mt (d + 2) 98 [(.inr (.inr (some 5))), (.inl a1), (.inl a2)] h0 kc ks Q := by
  have l_1 : ((1) : Int32).toInt = 1 := by decide
  refine uc_ink [some (.inr (.inr (some 5))), some (.inl a1), some (.inl a2)] mt_98 (Nat.le_of_ble_eq_true rfl) rfl ?_
  obtain ⟨f2, f3, f4, f5, hc1, k6⟩ := ok_5 hO0
  have t7 := fO_of (k := 1) hc1 rfl
  have t8 := fO_of (k := 2) hc1 rfl
  have t9 := fO_of (k := 3) hc1 rfl
  have t10 := fO_of (k := 5) hc1 rfl
  refine ur_ldA rfl rfl ?_
  refine ur_get rfl hc1 rfl ?_
  refine ur_ldA rfl rfl ?_
  refine ur_get rfl hc1 rfl ?_
  obtain ⟨xs12, hc11, hn13, he14⟩ := hO0.int (hO0.fix 7 (by decide) rfl)
  refine ur_lenV (m := 128) rfl hc11 hn13 (by decide) (fun x15 t16 => ?_)
  have z17 := any_r f5
  have z18 := any_r x15
  refine ur_if2 rfl (fun c19 => ?_) (fun c19 => ?_)
  · have t20 := lt_to c19
    refine ur_ldA rfl rfl ?_
    refine ur_get rfl hc1 rfl ?_
    refine ur_ldA rfl rfl ?_
    refine ur_get rfl hc1 rfl ?_
    refine ur_ldI rfl rfl ?_
    refine ur_ldI rfl rfl ?_
    refine ur_inl rfl rfl (Nat.le_of_ble_eq_true rfl) (Nat.le_of_ble_eq_true rfl) (st_X9_step _ (by show 0 ≤ a1.toInt ∧ a1.toInt ≤ 15; omega) _ (by show 0 ≤ a2.toInt ∧ a2.toInt ≤ 999999; omega) (fun w21 hr22 => ?_))
    obtain ⟨x23, rfl, f24⟩ := hr22
    show uRun _ (uCall Mt _) _ 26 (_, [(.inl x23), (.inl f5), (.inr (.inr (some 7)))], _, _, _)
    refine ur_astV (W := []) (m := 128) rfl hO0 hc11 (by decide) hn13 (by omega) (any_r _) (Or.inl rfl) (fun h27 hO27 hu27 d25 hc26 => ?_)
    have w28 : wI h0 h27 7 ((arI h0 7).set (f5 : Int32).toInt.toNat x23) := ⟨by rw [arI_of hc26, arI_of hc11], d25⟩
    refine ur_ldA rfl rfl ?_
    refine ur_dup rfl rfl ?_
    refine ur_get rfl ((d25 _ (by decide)).trans hc1) rfl ?_
    have t29 := fO_of (k := 1) ((d25 _ (by decide)).trans hc1) rfl
    have t30 := fO_of (k := 2) ((d25 _ (by decide)).trans hc1) rfl
    have t31 := fO_of (k := 3) ((d25 _ (by decide)).trans hc1) rfl
    have t32 := fO_of (k := 5) ((d25 _ (by decide)).trans hc1) rfl
    refine ur_push rfl ?_
    refine ur_binV rfl (fun x33 e34 => ?_)
    have t35 := ti_add e34 (by omega) (by omega)
    refine ur_putV (W := []) (fs' := [(.inr (.inr (some 6))), (.inl f2), (.inl f3), (.inl f4), (.inr (.inr (some 7))), (.inl x33)]) rfl hO27 ((d25 _ (by decide)).trans hc1) (Nat.le_of_ble_eq_true rfl) rfl rfl ⟨rfl, _, _, _, _, rfl, by omega⟩ rfl (Or.inl rfl) (fun h37 hO37 hu37 d36 hc38 => ?_)
    have t39 := fO_of (k := 1) hc38 rfl
    have t40 := fO_of (k := 2) hc38 rfl
    have t41 := fO_of (k := 3) hc38 rfl
    have t42 := fO_of (k := 5) hc38 rfl
    exact ur_ret0 rfl (hQ _ _ rfl hO37 (hu27.tr hu37) (by omega) (tkC_add hO0 w28 d36 (by omega) (by omega) (by omega) f24))
  · have t43 := lt_no c19
    exfalso
    omega

set_option maxRecDepth 20000 in
set_option maxHeartbeats 4000000 in
theorem st_X8_failHere {d kc ks : Nat} {h0 : aH} {Q : Option aV → aH → Prop} (hO0 : OK h0)  (hQ : ∀ r h', (r = none) → OK h' → un [] h0 h' → (fO h' 5 1 = fO h0 5 1 ∧ fO h' 5 2 = fO h0 5 2 ∧ fO h' 5 5 = fO h0 5 5 ∧ (fO h0 5 3 ≠ -1 ∧ fO h' 5 3 = fO h0 5 3 ∨ fO h0 5 3 = -1 ∧ fO h' 5 3 = fO h0 5 2)) → (tkC h' = tkC h0) → Q r h') : uCall Mt (d + 1) 99 [(.inr (.inr (some 5)))] h0 kc ks Q := by
  have l_m1 : ((-1) : Int32).toInt = -1 := by decide
  refine uc_ink [some (.inr (.inr (some 5)))] mt_99 (Nat.le_of_ble_eq_true rfl) rfl ?_
  obtain ⟨f2, f3, f4, f5, hc1, k6⟩ := ok_5 hO0
  have t7 := fO_of (k := 1) hc1 rfl
  have t8 := fO_of (k := 2) hc1 rfl
  have t9 := fO_of (k := 3) hc1 rfl
  have t10 := fO_of (k := 5) hc1 rfl
  refine ur_ldA rfl rfl ?_
  refine ur_get rfl hc1 rfl ?_
  refine ur_push rfl ?_
  refine ur_if2 rfl (fun c11 => ?_) (fun c11 => ?_)
  · have t12 := ne_to c11
    exact ur_ret0 rfl (hQ _ _ rfl hO0 un.rf (by omega) rfl)
  · have t13 := ne_no c11
    refine ur_ldA rfl rfl ?_
    refine ur_ldA rfl rfl ?_
    refine ur_get rfl hc1 rfl ?_
    refine ur_putV (W := []) (fs' := [(.inr (.inr (some 6))), (.inl f2), (.inl f3), (.inl f3), (.inr (.inr (some 7))), (.inl f5)]) rfl hO0 hc1 (Nat.le_of_ble_eq_true rfl) rfl rfl ⟨rfl, _, _, _, _, rfl, by omega⟩ rfl (Or.inl rfl) (fun h15 hO15 hu15 d14 hc16 => ?_)
    have t17 := fO_of (k := 1) hc16 rfl
    have t18 := fO_of (k := 2) hc16 rfl
    have t19 := fO_of (k := 3) hc16 rfl
    have t20 := fO_of (k := 5) hc16 rfl
    exact ur_ret0 rfl (hQ _ _ rfl hO15 hu15 (by omega) (tkC_put d14 (by omega)))

set_option maxRecDepth 20000 in
set_option maxHeartbeats 4000000 in
theorem st_X8_readNumber {d kc ks : Nat} {h0 : aH} {Q : Option aV → aH → Prop} {t : Int → Int} (hO0 : OK h0)  (pre0 : tC h0 = t) (pre1 : 0 ≤ fO h0 5 2 ∧ fO h0 5 2 ≤ fO h0 5 1 ∧ fO h0 5 1 ≤ 120 ∧ fO h0 5 3 = -1 ∧ 0 ≤ fO h0 5 5 ∧ fO h0 5 5 ≤ fO h0 5 2) (pre2 : 48 ≤ t (fO h0 5 2) ∧ t (fO h0 5 2) ≤ 57) (hQ : ∀ r h', (r = none) → OK h' → un [] h0 h' → (0 ≤ fO h' 5 5 ∧ fO h' 5 5 - fO h' 5 2 ≤ fO h0 5 5 - fO h0 5 2 ∧ fO h0 5 2 ≤ fO h' 5 2 ∧ fO h' 5 2 ≤ fO h' 5 1 ∧ fO h' 5 1 = fO h0 5 1 ∧ fO h' 5 3 ≤ fO h' 5 1 ∧ fO h' 5 3 = -1 ∧ fO h0 5 2 < fO h' 5 2) → (∃ v, (nrd t 6 (fO h0 5 2) 0 = (fO h' 5 2, v) ∧ 0 ≤ v ∧ v ≤ 999999) ∧ tkC h' = tkC h0 ++ [16 * v]) → Q r h') : uCall Mt (d + 3) 107 [(.inr (.inr (some 5)))] h0 kc ks Q := by
  have l_0 : ((0) : Int32).toInt = 0 := by decide
  have l_1 : ((1) : Int32).toInt = 1 := by decide
  have l_6 : ((6) : Int32).toInt = 6 := by decide
  have l_10 : ((10) : Int32).toInt = 10 := by decide
  have l_48 : ((48) : Int32).toInt = 48 := by decide
  have l_57 : ((57) : Int32).toInt = 57 := by decide
  refine uc_ink [some (.inr (.inr (some 5))), none, none] mt_107 (Nat.le_of_ble_eq_true rfl) rfl ?_
  obtain ⟨f2, f3, f4, f5, hc1, k6⟩ := ok_5 hO0
  have t7 := fO_of (k := 1) hc1 rfl
  have t8 := fO_of (k := 2) hc1 rfl
  have t9 := fO_of (k := 3) hc1 rfl
  have t10 := fO_of (k := 5) hc1 rfl
  refine ur_push rfl ?_
  refine ur_svIk [some (.inr (.inr (some 5))), some (.inl 0), none] rfl rfl ?_
  refine ur_push rfl ?_
  refine ur_svIk [some (.inr (.inr (some 5))), some (.inl 0), some (.inl 0)] rfl rfl ?_
  have L13 : ∀ (m14 : Nat) (x11 : Int32) (x12 : Int32) (h16 : aH) , OK h16 → un [] h0 h16 → ((0 ≤ x12.toInt ∧ x12.toInt ≤ 6) ∧ fO h16 5 1 = fO h0 5 1 ∧ fO h16 5 2 = fO h0 5 2 + x12.toInt ∧ fO h16 5 2 ≤ fO h16 5 1 ∧ fO h16 5 3 = -1 ∧ fO h16 5 5 = fO h0 5 5) → (nrX t (fO h0 5 2) x12.toInt (fO h16 5 2) x11.toInt) → (tkC h16 = tkC h0) → ((7 - x12.toInt).toNat) < m14 → uRun oX8_readNumber (uCall Mt (d + 2)) Q 4 ([some (.inr (.inr (some 5))), some (.inl x11), some (.inl x12)], [], h16, kc, ks) := by
    intro m14
    induction m14 with
    | zero => intro x11 x12 h16 hO16 hu16 iv19 px17 px18 mm20; omega
    | succ m14 ih15 =>
      intro x11 x12 h16 hO16 hu16 iv19 px17 px18 mm20
      refine ur_ldI rfl rfl ?_
      refine ur_push rfl ?_
      refine ur_if2 rfl (fun c21 => ?_) (fun c21 => ?_)
      · have t22 := le_to c21
        obtain ⟨f24, f25, f26, f27, hc23, k28⟩ := ok_5 hO16
        have t29 := fO_of (k := 1) hc23 rfl
        have t30 := fO_of (k := 2) hc23 rfl
        have t31 := fO_of (k := 3) hc23 rfl
        have t32 := fO_of (k := 5) hc23 rfl
        have t33 := nbd_le px17.2 (by omega) (by omega)
        have t34 : x12.toInt = 0 → t (fO h16 5 2) = t (fO h0 5 2) := fun q => congrArg t (by omega)
        refine ur_ldA rfl rfl ?_
        refine ur_push rfl ?_
        refine ur_ldI rfl rfl ?_
        refine ur_inl rfl (rcv_of hc23) (Nat.le_of_ble_eq_true rfl) (Nat.le_of_ble_eq_true rfl) (st_X8_add hO16 _ (by show 0 ≤ (0 : Int32).toInt ∧ (0 : Int32).toInt ≤ 15; omega) _ (by show 0 ≤ x11.toInt ∧ x11.toInt ≤ 999999; omega) (by omega) (fun w35 h39 hr36 hO39 hv39 hp37 hp38 => ?_))
        have hu39 := hv39
        subst hr36
        show uRun _ (uCall Mt _) _ 59 (_, [], _, _, _)
        obtain ⟨f41, f42, f43, f44, hc40, k45⟩ := ok_5 hO39
        have t46 := fO_of (k := 1) hc40 rfl
        have t47 := fO_of (k := 2) hc40 rfl
        have t48 := fO_of (k := 3) hc40 rfl
        have t49 := fO_of (k := 5) hc40 rfl
        have t50 : t (fO h16 5 2) = t (fO h39 5 2) := congrArg t (by omega)
        exact ur_ret0 rfl (hQ _ _ rfl hO39 (hu16.tr hu39) (by omega) ⟨x11.toInt, nrX_e (nrX.c px17 (p2 := fO h39 5 2) (by omega)) (by omega) (by omega), by rw [hp38, px18, l_0, Int.add_zero]⟩)
      · have t51 := le_no c21
        obtain ⟨f53, f54, f55, f56, hc52, k57⟩ := ok_5 hO16
        have t58 := fO_of (k := 1) hc52 rfl
        have t59 := fO_of (k := 2) hc52 rfl
        have t60 := fO_of (k := 3) hc52 rfl
        have t61 := fO_of (k := 5) hc52 rfl
        have t62 := nbd_le px17.2 (by omega) (by omega)
        refine ur_ldA rfl rfl ?_
        refine ur_inl rfl (rcv_of hc52) (Nat.le_of_ble_eq_true rfl) (Nat.le_of_ble_eq_true rfl) (st_X8_here hO16 (tC_un hO0 hO16 hu16 (by decide) (by decide) pre0) (fun w63 hr64 => ?_))
        obtain ⟨x65, rfl, t66⟩ := hr64
        show uRun _ (uCall Mt _) _ 14 (_, [(.inl x65)], _, _, _)
        refine ur_push rfl ?_
        refine ur_push rfl ?_
        refine ur_callv rfl rfl (Nat.le_of_ble_eq_true rfl) (Nat.le_of_ble_eq_true rfl) rfl (sp_within _ _ _ _ _) ?_
        refine ur_eqB rfl (fun c69 => ?_) (fun c69 => ?_)
        · have t70 := wi_noL c69 l_48 l_57
          have t71 := nbd_le px17.2 (by omega) (by omega)
          have t72 : x12.toInt = 0 → t (fO h16 5 2) = t (fO h0 5 2) := fun q => congrArg t (by omega)
          refine ur_ldA rfl rfl ?_
          refine ur_push rfl ?_
          refine ur_ldI rfl rfl ?_
          refine ur_inl rfl (rcv_of hc52) (Nat.le_of_ble_eq_true rfl) (Nat.le_of_ble_eq_true rfl) (st_X8_add hO16 _ (by show 0 ≤ (0 : Int32).toInt ∧ (0 : Int32).toInt ≤ 15; omega) _ (by show 0 ≤ x11.toInt ∧ x11.toInt ≤ 999999; omega) (by omega) (fun w73 h77 hr74 hO77 hv77 hp75 hp76 => ?_))
          have hu77 := hv77
          subst hr74
          show uRun _ (uCall Mt _) _ 59 (_, [], _, _, _)
          obtain ⟨f79, f80, f81, f82, hc78, k83⟩ := ok_5 hO77
          have t84 := fO_of (k := 1) hc78 rfl
          have t85 := fO_of (k := 2) hc78 rfl
          have t86 := fO_of (k := 3) hc78 rfl
          have t87 := fO_of (k := 5) hc78 rfl
          have t88 : t (fO h16 5 2) = t (fO h77 5 2) := congrArg t (by omega)
          exact ur_ret0 rfl (hQ _ _ rfl hO77 (hu16.tr hu77) (by omega) ⟨x11.toInt, nrX_e (nrX.c px17 (p2 := fO h77 5 2) (by omega)) (by omega) (by omega), by rw [hp76, px18, l_0, Int.add_zero]⟩)
        · have t89 := wi_toL c69 l_48 l_57
          have t90 : 0 ≤ x11.toInt ∧ x11.toInt ≤ 99999 := by omega
          refine ur_ldI rfl rfl ?_
          refine ur_push rfl ?_
          refine ur_binV rfl (fun x91 e92 => ?_)
          have z93 := any_r x11
          have t94 := ti_mulL e92 l_10 (by omega) (by omega)
          refine ur_ldA rfl rfl ?_
          refine ur_inl rfl (rcv_of hc52) (Nat.le_of_ble_eq_true rfl) (Nat.le_of_ble_eq_true rfl) (st_X8_here hO16 (tC_un hO0 hO16 hu16 (by decide) (by decide) pre0) (fun w95 hr96 => ?_))
          obtain ⟨x97, rfl, t98⟩ := hr96
          show uRun _ (uCall Mt _) _ 32 (_, [(.inl x97), (.inl x91)], _, _, _)
          refine ur_binV rfl (fun x99 e100 => ?_)
          have z101 := any_r x91
          have z102 := any_r x97
          have t103 := ti_add e100 (by omega) (by omega)
          refine ur_push rfl ?_
          refine ur_binV rfl (fun x104 e105 => ?_)
          have z106 := any_r x99
          have t107 := ti_sub e105 (by omega) (by omega)
          refine ur_svIk [some (.inr (.inr (some 5))), some (.inl x104), some (.inl x12)] rfl rfl ?_
          refine ur_ldA rfl rfl ?_
          refine ur_dup rfl rfl ?_
          refine ur_get rfl hc52 rfl ?_
          refine ur_push rfl ?_
          refine ur_binV rfl (fun x108 e109 => ?_)
          have z110 := any_r f54
          have t111 := ti_add e109 (by omega) (by omega)
          refine ur_putV (W := []) (fs' := [(.inr (.inr (some 6))), (.inl f53), (.inl x108), (.inl f55), (.inr (.inr (some 7))), (.inl f56)]) rfl hO16 hc52 (Nat.le_of_ble_eq_true rfl) rfl rfl ⟨rfl, _, _, _, _, rfl, by omega⟩ rfl (Or.inl rfl) (fun h113 hO113 hu113 d112 hc114 => ?_)
          refine ur_incV (fun z => [some (.inr (.inr (some 5))), some (.inl x104), some (.inl z)]) rfl rfl (fun _ => rfl) (fun x115 e116 => ?_)
          have z117 := any_r x12
          have t118 := ti_add e116 (by omega) (by omega)
          refine ur_go rfl ?_
          have t119 := fO_of (k := 1) hc114 rfl
          have t120 := fO_of (k := 2) hc114 rfl
          have t121 := fO_of (k := 3) hc114 rfl
          have t122 := fO_of (k := 5) hc114 rfl
          have z123 := any_r x115
          exact ih15 x104 x115 _ hO113 (hu16.tr hu113) (by omega) (nrX_s (c := x97.toInt) px17 (by omega) (by omega) (by omega) (by omega) (by omega) (by omega)) ((tkC_put d112 (by omega)).trans px18) (by omega)
  exact L13 _ 0 0 _ hO0 un.rf (by omega) (nrX_0 (by omega) (by omega) (by omega)) rfl (Nat.lt_succ_self _)

set_option maxRecDepth 20000 in
set_option maxHeartbeats 4000000 in
theorem st_X8_readProduct {d kc ks : Nat} {h0 : aH} {Q : Option aV → aH → Prop} {t : Int → Int} (n : Nat) (rec : ∀ {kc ks : Nat} {h0 : aH} {Q : Option aV → aH → Prop}, OK h0 → ∀ (a1 : Int32), (0 ≤ a1.toInt ∧ a1.toInt ≤ 6) → (6 ≤ a1.toInt + (n : Int)) → (tC h0 = t) → (0 ≤ fO h0 5 2 ∧ fO h0 5 2 ≤ fO h0 5 1 ∧ fO h0 5 1 ≤ 120 ∧ fO h0 5 3 = -1 ∧ 0 ≤ fO h0 5 5 ∧ fO h0 5 5 ≤ fO h0 5 2) → (∀ r h', (r = none) → OK h' → un [] h0 h' → (0 ≤ fO h' 5 5 ∧ fO h' 5 5 - fO h' 5 2 ≤ fO h0 5 5 - fO h0 5 2 ∧ fO h0 5 2 ≤ fO h' 5 2 ∧ fO h' 5 2 ≤ fO h' 5 1 ∧ fO h' 5 1 = fO h0 5 1 ∧ fO h' 5 3 ≤ fO h' 5 1) → (COt t 0 a1.toInt (fO h0 5 2) (tkC h0) (fO h' 5 3) (fO h' 5 2) (tkC h')) → Q r h') → uCall Mt (d + 4) 106 [(.inr (.inr (some 5))), (.inl a1)] h0 kc ks Q) (hO0 : OK h0) (a1 : Int32) (b1 : 0 ≤ a1.toInt ∧ a1.toInt ≤ 6) (e1 : 6 ≤ a1.toInt + (n : Int)) (pre0 : tC h0 = t) (pre1 : 0 ≤ fO h0 5 2 ∧ fO h0 5 2 ≤ fO h0 5 1 ∧ fO h0 5 1 ≤ 120 ∧ fO h0 5 3 = -1 ∧ 0 ≤ fO h0 5 5 ∧ fO h0 5 5 ≤ fO h0 5 2) (hQ : ∀ r h', (r = none) → OK h' → un [] h0 h' → (0 ≤ fO h' 5 5 ∧ fO h' 5 5 - fO h' 5 2 ≤ fO h0 5 5 - fO h0 5 2 ∧ fO h0 5 2 ≤ fO h' 5 2 ∧ fO h' 5 2 ≤ fO h' 5 1 ∧ fO h' 5 1 = fO h0 5 1 ∧ fO h' 5 3 ≤ fO h' 5 1) → (COt t 1 a1.toInt (fO h0 5 2) (tkC h0) (fO h' 5 3) (fO h' 5 2) (tkC h')) → Q r h') : uCall Mt (d + 5) 105 [(.inr (.inr (some 5))), (.inl a1)] h0 kc ks Q := by
  have l_0 : ((0) : Int32).toInt = 0 := by decide
  have l_1 : ((1) : Int32).toInt = 1 := by decide
  have l_4 : ((4) : Int32).toInt = 4 := by decide
  have l_5 : ((5) : Int32).toInt = 5 := by decide
  have l_6 : ((6) : Int32).toInt = 6 := by decide
  have l_15 : ((15) : Int32).toInt = 15 := by decide
  have l_37 : ((37) : Int32).toInt = 37 := by decide
  have l_42 : ((42) : Int32).toInt = 42 := by decide
  have l_47 : ((47) : Int32).toInt = 47 := by decide
  refine uc_ink [some (.inr (.inr (some 5))), some (.inl a1), none, none] mt_105 (Nat.le_of_ble_eq_true rfl) rfl ?_
  obtain ⟨f2, f3, f4, f5, hc1, k6⟩ := ok_5 hO0
  have t7 := fO_of (k := 1) hc1 rfl
  have t8 := fO_of (k := 2) hc1 rfl
  have t9 := fO_of (k := 3) hc1 rfl
  have t10 := fO_of (k := 5) hc1 rfl
  refine ur_ldA rfl rfl ?_
  refine ur_ldI rfl rfl ?_
  refine ur_inl rfl (rcv_of hc1) (Nat.le_of_ble_eq_true rfl) (Nat.le_of_ble_eq_true rfl) (rec hO0 _ (by show 0 ≤ a1.toInt ∧ a1.toInt ≤ 6; omega) (by show 6 ≤ a1.toInt + (n : Int); omega) pre0 (by omega) (fun w11 h15 hr12 hO15 hv15 hp13 hp14 => ?_))
  have hu15 := hv15
  subst hr12
  show uRun _ (uCall Mt _) _ 5 (_, [], _, _, _)
  refine ur_push rfl ?_
  refine ur_svIk [some (.inr (.inr (some 5))), some (.inl a1), some (.inl 0), none] rfl rfl ?_
  obtain ⟨f22, f23, f24, f25, hc21, k26⟩ := ok_5 hO15
  have t27 := fO_of (k := 1) hc21 rfl
  have t28 := fO_of (k := 2) hc21 rfl
  have t29 := fO_of (k := 3) hc21 rfl
  have t30 := fO_of (k := 5) hc21 rfl
  have L18 : ∀ (m19 : Nat) (x16 : Int32) (u17 : Option aV) (h31 : aH) , OK h31 → un [] h15 h31 → ((0 ≤ x16.toInt ∧ x16.toInt ≤ 120) ∧ x16.toInt ≤ fO h31 5 2 ∧ 0 ≤ fO h31 5 5 ∧ fO h31 5 5 - fO h31 5 2 ≤ fO h0 5 5 - fO h0 5 2 ∧ fO h0 5 2 ≤ fO h31 5 2 ∧ fO h31 5 2 ≤ fO h31 5 1 ∧ fO h31 5 1 = fO h0 5 1 ∧ fO h31 5 3 ≤ fO h31 5 1) → (LCt t 1 a1.toInt (fO h0 5 2) (tkC h0) (fO h31 5 3) (fO h31 5 2) (tkC h31)) → ((121 - x16.toInt).toNat) < m19 → uRun oX8_readProduct (uCall Mt (d + 4)) Q 7 ([some (.inr (.inr (some 5))), some (.inl a1), some (.inl x16), u17], [], h31, kc, ks) := by
    intro m19
    induction m19 with
    | zero => intro x16 u17 h31 hO31 hu31 iv33 px32 mm34; omega
    | succ m19 ih20 =>
      intro x16 u17 h31 hO31 hu31 iv33 px32 mm34
      obtain ⟨f36, f37, f38, f39, hc35, k40⟩ := ok_5 hO31
      have t41 := fO_of (k := 1) hc35 rfl
      have t42 := fO_of (k := 2) hc35 rfl
      have t43 := fO_of (k := 3) hc35 rfl
      have t44 := fO_of (k := 5) hc35 rfl
      refine ur_ldI rfl rfl ?_
      refine ur_ldA rfl rfl ?_
      refine ur_get rfl hc35 rfl ?_
      have z45 := any_r x16
      have z46 := any_r f36
      refine ur_if2 rfl (fun c47 => ?_) (fun c47 => ?_)
      · have t48 := le_to c47
        have t49 := tC_out (q := fO h31 5 2) (tC_un hO0 hO31 (hu15.tr hu31) (by decide) (by decide) pre0) (by omega)
        exact ur_ret0 rfl (hQ _ _ rfl hO31 (hu15.tr hu31) (by omega) (LCt.done (LCt.cast px32 (by omega) (by omega) rfl) (by omega) (by omega) (fun q => by unfold iop; omega)))
      · have t50 := le_no c47
        refine ur_ldA rfl rfl ?_
        refine ur_push rfl ?_
        refine ur_inl rfl (rcv_of hc35) (Nat.le_of_ble_eq_true rfl) (Nat.le_of_ble_eq_true rfl) (st_X8_isGoingOn hO31 _ (by show 33 ≤ (42 : Int32).toInt ∧ (42 : Int32).toInt ≤ 124; omega) (tC_un hO0 hO31 (hu15.tr hu31) (by decide) (by decide) pre0) (by omega) (fun w51 h55 hr52 hO55 hv55 hp53 hp54 => ?_))
        have hu55 := hv55
        obtain ⟨b56, rfl, t57, t58⟩ := hr52
        show uRun _ (uCall Mt _) _ 21 (_, [(.inl (bi b56))], _, _, _)
        refine ur_eqB rfl (fun c59 => ?_) (fun c59 => ?_)
        · have t60 := t58 c59
          clear t57 t58
          refine ur_ldA rfl rfl ?_
          refine ur_push rfl ?_
          obtain ⟨f62, f63, f64, f65, hc61, k66⟩ := ok_5 hO55
          have t67 := fO_of (k := 1) hc61 rfl
          have t68 := fO_of (k := 2) hc61 rfl
          have t69 := fO_of (k := 3) hc61 rfl
          have t70 := fO_of (k := 5) hc61 rfl
          refine ur_inl rfl (rcv_of hc61) (Nat.le_of_ble_eq_true rfl) (Nat.le_of_ble_eq_true rfl) (st_X8_isGoingOn hO55 _ (by show 33 ≤ (47 : Int32).toInt ∧ (47 : Int32).toInt ≤ 124; omega) (tC_un hO0 hO55 (hu15.tr (hu31.tr hu55)) (by decide) (by decide) pre0) (by omega) (fun w71 h75 hr72 hO75 hv75 hp73 hp74 => ?_))
          have hu75 := hv75
          obtain ⟨b76, rfl, t77, t78⟩ := hr72
          show uRun _ (uCall Mt _) _ 34 (_, [(.inl (bi b76))], _, _, _)
          refine ur_eqB rfl (fun c79 => ?_) (fun c79 => ?_)
          · have t80 := t78 c79
            clear t77 t78
            refine ur_ldA rfl rfl ?_
            refine ur_push rfl ?_
            obtain ⟨f82, f83, f84, f85, hc81, k86⟩ := ok_5 hO75
            have t87 := fO_of (k := 1) hc81 rfl
            have t88 := fO_of (k := 2) hc81 rfl
            have t89 := fO_of (k := 3) hc81 rfl
            have t90 := fO_of (k := 5) hc81 rfl
            refine ur_inl rfl (rcv_of hc81) (Nat.le_of_ble_eq_true rfl) (Nat.le_of_ble_eq_true rfl) (st_X8_isGoingOn hO75 _ (by show 33 ≤ (37 : Int32).toInt ∧ (37 : Int32).toInt ≤ 124; omega) (tC_un hO0 hO75 (hu15.tr (hu31.tr (hu55.tr hu75))) (by decide) (by decide) pre0) (by omega) (fun w91 h95 hr92 hO95 hv95 hp93 hp94 => ?_))
            have hu95 := hv95
            obtain ⟨b96, rfl, t97, t98⟩ := hr92
            show uRun _ (uCall Mt _) _ 47 (_, [(.inl (bi b96))], _, _, _)
            refine ur_eqB rfl (fun c99 => ?_) (fun c99 => ?_)
            · have t100 := t98 c99
              clear t97 t98
              refine ur_push rfl ?_
              refine ur_svIk [some (.inr (.inr (some 5))), some (.inl a1), some (.inl x16), some (.inl 15)] rfl rfl ?_
              refine ur_ldI rfl rfl ?_
              refine ur_push rfl ?_
              refine ur_if2f rfl (by decide) ?_
              obtain ⟨f102, f103, f104, f105, hc101, k106⟩ := ok_5 hO95
              have t107 := fO_of (k := 1) hc101 rfl
              have t108 := fO_of (k := 2) hc101 rfl
              have t109 := fO_of (k := 3) hc101 rfl
              have t110 := fO_of (k := 5) hc101 rfl
              have t111 : t (fO h31 5 2) = t (fO h95 5 2) := congrArg t (by omega)
              have t112 : t (fO h55 5 2) = t (fO h95 5 2) := congrArg t (by omega)
              have t113 : t (fO h75 5 2) = t (fO h95 5 2) := congrArg t (by omega)
              exact ur_ret0 rfl (hQ _ _ rfl hO95 (hu15.tr (hu31.tr (hu55.tr (hu75.tr hu95)))) (by omega) (LCt.done (LCt.cast px32 (by omega) (by omega) (hp94.trans (hp74.trans hp54))) (by omega) (by omega) (fun q => by unfold iop; omega)))
            · have t114 := t97 c99
              clear t97 t98
              refine ur_push rfl ?_
              refine ur_go rfl ?_
              refine ur_svIk [some (.inr (.inr (some 5))), some (.inl a1), some (.inl x16), some (.inl 6)] rfl rfl ?_
              refine ur_ldI rfl rfl ?_
              refine ur_push rfl ?_
              refine ur_if2t rfl (by decide) ?_
              refine ur_ldA rfl rfl ?_
              refine ur_ldI rfl rfl ?_
              obtain ⟨f116, f117, f118, f119, hc115, k120⟩ := ok_5 hO95
              have t121 := fO_of (k := 1) hc115 rfl
              have t122 := fO_of (k := 2) hc115 rfl
              have t123 := fO_of (k := 3) hc115 rfl
              have t124 := fO_of (k := 5) hc115 rfl
              refine ur_inl rfl (rcv_of hc115) (Nat.le_of_ble_eq_true rfl) (Nat.le_of_ble_eq_true rfl) (rec hO95 _ (by show 0 ≤ a1.toInt ∧ a1.toInt ≤ 6; omega) (by show 6 ≤ a1.toInt + (n : Int); omega) (tC_un hO0 hO95 (hu15.tr (hu31.tr (hu55.tr (hu75.tr hu95)))) (by decide) (by decide) pre0) (by omega) (fun w125 h129 hr126 hO129 hv129 hp127 hp128 => ?_))
              have hu129 := hv129
              subst hr126
              show uRun _ (uCall Mt _) _ 70 (_, [], _, _, _)
              refine ur_ldA rfl rfl ?_
              refine ur_ldI rfl rfl ?_
              refine ur_push rfl ?_
              obtain ⟨f131, f132, f133, f134, hc130, k135⟩ := ok_5 hO129
              have t136 := fO_of (k := 1) hc130 rfl
              have t137 := fO_of (k := 2) hc130 rfl
              have t138 := fO_of (k := 3) hc130 rfl
              have t139 := fO_of (k := 5) hc130 rfl
              refine ur_inl rfl (rcv_of hc130) (Nat.le_of_ble_eq_true rfl) (Nat.le_of_ble_eq_true rfl) (st_X8_add hO129 _ (by show 0 ≤ (6 : Int32).toInt ∧ (6 : Int32).toInt ≤ 15; omega) _ (by show 0 ≤ (0 : Int32).toInt ∧ (0 : Int32).toInt ≤ 999999; omega) (by omega) (fun w140 h144 hr141 hO144 hv144 hp142 hp143 => ?_))
              have hu144 := hv144
              subst hr141
              show uRun _ (uCall Mt _) _ 76 (_, [], _, _, _)
              refine ur_incV (fun z => [some (.inr (.inr (some 5))), some (.inl a1), some (.inl z), some (.inl 6)]) rfl rfl (fun _ => rfl) (fun x145 e146 => ?_)
              have t147 := ti_add e146 (by omega) (by omega)
              refine ur_go rfl ?_
              obtain ⟨f149, f150, f151, f152, hc148, k153⟩ := ok_5 hO144
              have t154 := fO_of (k := 1) hc148 rfl
              have t155 := fO_of (k := 2) hc148 rfl
              have t156 := fO_of (k := 3) hc148 rfl
              have t157 := fO_of (k := 5) hc148 rfl
              have z158 := any_r x145
              exact ih20 x145 _ _ hO144 (hu31.tr (hu55.tr (hu75.tr (hu95.tr (hu129.tr hu144))))) (by omega) (LCt.cast (LCt.op (c := 37) (f1 := fO h75 5 3) (p1 := fO h75 5 2) (LCt.cast px32 (by omega) (by omega) (hp74.trans hp54)) (by omega) (by omega) (by unfold iop; omega) (by omega) (by omega) (by omega) hp128 (by omega) rfl (by omega) hp94 hp143 (by decide)) (by omega) (by omega) rfl) (by omega)
          · have t159 := t77 c79
            clear t77 t78
            refine ur_push rfl ?_
            refine ur_go rfl ?_
            refine ur_svIk [some (.inr (.inr (some 5))), some (.inl a1), some (.inl x16), some (.inl 5)] rfl rfl ?_
            refine ur_ldI rfl rfl ?_
            refine ur_push rfl ?_
            refine ur_if2t rfl (by decide) ?_
            refine ur_ldA rfl rfl ?_
            refine ur_ldI rfl rfl ?_
            obtain ⟨f161, f162, f163, f164, hc160, k165⟩ := ok_5 hO75
            have t166 := fO_of (k := 1) hc160 rfl
            have t167 := fO_of (k := 2) hc160 rfl
            have t168 := fO_of (k := 3) hc160 rfl
            have t169 := fO_of (k := 5) hc160 rfl
            refine ur_inl rfl (rcv_of hc160) (Nat.le_of_ble_eq_true rfl) (Nat.le_of_ble_eq_true rfl) (rec hO75 _ (by show 0 ≤ a1.toInt ∧ a1.toInt ≤ 6; omega) (by show 6 ≤ a1.toInt + (n : Int); omega) (tC_un hO0 hO75 (hu15.tr (hu31.tr (hu55.tr hu75))) (by decide) (by decide) pre0) (by omega) (fun w170 h174 hr171 hO174 hv174 hp172 hp173 => ?_))
            have hu174 := hv174
            subst hr171
            show uRun _ (uCall Mt _) _ 70 (_, [], _, _, _)
            refine ur_ldA rfl rfl ?_
            refine ur_ldI rfl rfl ?_
            refine ur_push rfl ?_
            obtain ⟨f176, f177, f178, f179, hc175, k180⟩ := ok_5 hO174
            have t181 := fO_of (k := 1) hc175 rfl
            have t182 := fO_of (k := 2) hc175 rfl
            have t183 := fO_of (k := 3) hc175 rfl
            have t184 := fO_of (k := 5) hc175 rfl
            refine ur_inl rfl (rcv_of hc175) (Nat.le_of_ble_eq_true rfl) (Nat.le_of_ble_eq_true rfl) (st_X8_add hO174 _ (by show 0 ≤ (5 : Int32).toInt ∧ (5 : Int32).toInt ≤ 15; omega) _ (by show 0 ≤ (0 : Int32).toInt ∧ (0 : Int32).toInt ≤ 999999; omega) (by omega) (fun w185 h189 hr186 hO189 hv189 hp187 hp188 => ?_))
            have hu189 := hv189
            subst hr186
            show uRun _ (uCall Mt _) _ 76 (_, [], _, _, _)
            refine ur_incV (fun z => [some (.inr (.inr (some 5))), some (.inl a1), some (.inl z), some (.inl 5)]) rfl rfl (fun _ => rfl) (fun x190 e191 => ?_)
            have t192 := ti_add e191 (by omega) (by omega)
            refine ur_go rfl ?_
            obtain ⟨f194, f195, f196, f197, hc193, k198⟩ := ok_5 hO189
            have t199 := fO_of (k := 1) hc193 rfl
            have t200 := fO_of (k := 2) hc193 rfl
            have t201 := fO_of (k := 3) hc193 rfl
            have t202 := fO_of (k := 5) hc193 rfl
            have z203 := any_r x190
            exact ih20 x190 _ _ hO189 (hu31.tr (hu55.tr (hu75.tr (hu174.tr hu189)))) (by omega) (LCt.cast (LCt.op (c := 47) (f1 := fO h55 5 3) (p1 := fO h55 5 2) (LCt.cast px32 (by omega) (by omega) hp54) (by omega) (by omega) (by unfold iop; omega) (by omega) (by omega) (by omega) hp173 (by omega) rfl (by omega) hp74 hp188 (by decide)) (by omega) (by omega) rfl) (by omega)
        · have t204 := t57 c59
          clear t57 t58
          refine ur_push rfl ?_
          refine ur_go rfl ?_
          refine ur_svIk [some (.inr (.inr (some 5))), some (.inl a1), some (.inl x16), some (.inl 4)] rfl rfl ?_
          refine ur_ldI rfl rfl ?_
          refine ur_push rfl ?_
          refine ur_if2t rfl (by decide) ?_
          refine ur_ldA rfl rfl ?_
          refine ur_ldI rfl rfl ?_
          obtain ⟨f206, f207, f208, f209, hc205, k210⟩ := ok_5 hO55
          have t211 := fO_of (k := 1) hc205 rfl
          have t212 := fO_of (k := 2) hc205 rfl
          have t213 := fO_of (k := 3) hc205 rfl
          have t214 := fO_of (k := 5) hc205 rfl
          refine ur_inl rfl (rcv_of hc205) (Nat.le_of_ble_eq_true rfl) (Nat.le_of_ble_eq_true rfl) (rec hO55 _ (by show 0 ≤ a1.toInt ∧ a1.toInt ≤ 6; omega) (by show 6 ≤ a1.toInt + (n : Int); omega) (tC_un hO0 hO55 (hu15.tr (hu31.tr hu55)) (by decide) (by decide) pre0) (by omega) (fun w215 h219 hr216 hO219 hv219 hp217 hp218 => ?_))
          have hu219 := hv219
          subst hr216
          show uRun _ (uCall Mt _) _ 70 (_, [], _, _, _)
          refine ur_ldA rfl rfl ?_
          refine ur_ldI rfl rfl ?_
          refine ur_push rfl ?_
          obtain ⟨f221, f222, f223, f224, hc220, k225⟩ := ok_5 hO219
          have t226 := fO_of (k := 1) hc220 rfl
          have t227 := fO_of (k := 2) hc220 rfl
          have t228 := fO_of (k := 3) hc220 rfl
          have t229 := fO_of (k := 5) hc220 rfl
          refine ur_inl rfl (rcv_of hc220) (Nat.le_of_ble_eq_true rfl) (Nat.le_of_ble_eq_true rfl) (st_X8_add hO219 _ (by show 0 ≤ (4 : Int32).toInt ∧ (4 : Int32).toInt ≤ 15; omega) _ (by show 0 ≤ (0 : Int32).toInt ∧ (0 : Int32).toInt ≤ 999999; omega) (by omega) (fun w230 h234 hr231 hO234 hv234 hp232 hp233 => ?_))
          have hu234 := hv234
          subst hr231
          show uRun _ (uCall Mt _) _ 76 (_, [], _, _, _)
          refine ur_incV (fun z => [some (.inr (.inr (some 5))), some (.inl a1), some (.inl z), some (.inl 4)]) rfl rfl (fun _ => rfl) (fun x235 e236 => ?_)
          have t237 := ti_add e236 (by omega) (by omega)
          refine ur_go rfl ?_
          obtain ⟨f239, f240, f241, f242, hc238, k243⟩ := ok_5 hO234
          have t244 := fO_of (k := 1) hc238 rfl
          have t245 := fO_of (k := 2) hc238 rfl
          have t246 := fO_of (k := 3) hc238 rfl
          have t247 := fO_of (k := 5) hc238 rfl
          have z248 := any_r x235
          exact ih20 x235 _ _ hO234 (hu31.tr (hu55.tr (hu219.tr hu234))) (by omega) (LCt.cast (LCt.op (c := 42) (f1 := fO h31 5 3) (p1 := fO h31 5 2) (LCt.cast px32 (by omega) (by omega) rfl) (by omega) (by omega) (by unfold iop; omega) (by omega) (by omega) (by omega) hp218 (by omega) rfl (by omega) hp54 hp233 (by decide)) (by omega) (by omega) rfl) (by omega)
  exact L18 _ 0 (none) _ hO15 un.rf (by omega) (COt.up hp14 (by omega) (by omega) (by omega)) (Nat.lt_succ_self _)

set_option maxRecDepth 20000 in
set_option maxHeartbeats 4000000 in
theorem st_X8_readSum {d kc ks : Nat} {h0 : aH} {Q : Option aV → aH → Prop} {t : Int → Int} (n : Nat) (rec : ∀ {kc ks : Nat} {h0 : aH} {Q : Option aV → aH → Prop}, OK h0 → ∀ (a1 : Int32), (0 ≤ a1.toInt ∧ a1.toInt ≤ 6) → (6 ≤ a1.toInt + (n : Int)) → (tC h0 = t) → (0 ≤ fO h0 5 2 ∧ fO h0 5 2 ≤ fO h0 5 1 ∧ fO h0 5 1 ≤ 120 ∧ fO h0 5 3 = -1 ∧ 0 ≤ fO h0 5 5 ∧ fO h0 5 5 ≤ fO h0 5 2) → (∀ r h', (r = none) → OK h' → un [] h0 h' → (0 ≤ fO h' 5 5 ∧ fO h' 5 5 - fO h' 5 2 ≤ fO h0 5 5 - fO h0 5 2 ∧ fO h0 5 2 ≤ fO h' 5 2 ∧ fO h' 5 2 ≤ fO h' 5 1 ∧ fO h' 5 1 = fO h0 5 1 ∧ fO h' 5 3 ≤ fO h' 5 1) → (COt t 0 a1.toInt (fO h0 5 2) (tkC h0) (fO h' 5 3) (fO h' 5 2) (tkC h')) → Q r h') → uCall Mt (d + 4) 106 [(.inr (.inr (some 5))), (.inl a1)] h0 kc ks Q) (hO0 : OK h0) (a1 : Int32) (b1 : 0 ≤ a1.toInt ∧ a1.toInt ≤ 6) (e1 : 6 ≤ a1.toInt + (n : Int)) (pre0 : tC h0 = t) (pre1 : 0 ≤ fO h0 5 2 ∧ fO h0 5 2 ≤ fO h0 5 1 ∧ fO h0 5 1 ≤ 120 ∧ fO h0 5 3 = -1 ∧ 0 ≤ fO h0 5 5 ∧ fO h0 5 5 ≤ fO h0 5 2) (hQ : ∀ r h', (r = none) → OK h' → un [] h0 h' → (0 ≤ fO h' 5 5 ∧ fO h' 5 5 - fO h' 5 2 ≤ fO h0 5 5 - fO h0 5 2 ∧ fO h0 5 2 ≤ fO h' 5 2 ∧ fO h' 5 2 ≤ fO h' 5 1 ∧ fO h' 5 1 = fO h0 5 1 ∧ fO h' 5 3 ≤ fO h' 5 1) → (COt t 2 a1.toInt (fO h0 5 2) (tkC h0) (fO h' 5 3) (fO h' 5 2) (tkC h')) → Q r h') : uCall Mt (d + 6) 104 [(.inr (.inr (some 5))), (.inl a1)] h0 kc ks Q := by
  have l_0 : ((0) : Int32).toInt = 0 := by decide
  have l_1 : ((1) : Int32).toInt = 1 := by decide
  have l_7 : ((7) : Int32).toInt = 7 := by decide
  have l_8 : ((8) : Int32).toInt = 8 := by decide
  have l_15 : ((15) : Int32).toInt = 15 := by decide
  have l_43 : ((43) : Int32).toInt = 43 := by decide
  have l_45 : ((45) : Int32).toInt = 45 := by decide
  refine uc_ink [some (.inr (.inr (some 5))), some (.inl a1), none, none] mt_104 (Nat.le_of_ble_eq_true rfl) rfl ?_
  obtain ⟨f2, f3, f4, f5, hc1, k6⟩ := ok_5 hO0
  have t7 := fO_of (k := 1) hc1 rfl
  have t8 := fO_of (k := 2) hc1 rfl
  have t9 := fO_of (k := 3) hc1 rfl
  have t10 := fO_of (k := 5) hc1 rfl
  refine ur_ldA rfl rfl ?_
  refine ur_ldI rfl rfl ?_
  refine ur_inl rfl (rcv_of hc1) (Nat.le_of_ble_eq_true rfl) (Nat.le_of_ble_eq_true rfl) (st_X8_readProduct n rec hO0 _ (by show 0 ≤ a1.toInt ∧ a1.toInt ≤ 6; omega) (by show 6 ≤ a1.toInt + (n : Int); omega) pre0 (by omega) (fun w11 h15 hr12 hO15 hv15 hp13 hp14 => ?_))
  have hu15 := hv15
  subst hr12
  show uRun _ (uCall Mt _) _ 5 (_, [], _, _, _)
  refine ur_push rfl ?_
  refine ur_svIk [some (.inr (.inr (some 5))), some (.inl a1), some (.inl 0), none] rfl rfl ?_
  obtain ⟨f22, f23, f24, f25, hc21, k26⟩ := ok_5 hO15
  have t27 := fO_of (k := 1) hc21 rfl
  have t28 := fO_of (k := 2) hc21 rfl
  have t29 := fO_of (k := 3) hc21 rfl
  have t30 := fO_of (k := 5) hc21 rfl
  have L18 : ∀ (m19 : Nat) (x16 : Int32) (u17 : Option aV) (h31 : aH) , OK h31 → un [] h15 h31 → ((0 ≤ x16.toInt ∧ x16.toInt ≤ 120) ∧ x16.toInt ≤ fO h31 5 2 ∧ 0 ≤ fO h31 5 5 ∧ fO h31 5 5 - fO h31 5 2 ≤ fO h0 5 5 - fO h0 5 2 ∧ fO h0 5 2 ≤ fO h31 5 2 ∧ fO h31 5 2 ≤ fO h31 5 1 ∧ fO h31 5 1 = fO h0 5 1 ∧ fO h31 5 3 ≤ fO h31 5 1) → (LCt t 2 a1.toInt (fO h0 5 2) (tkC h0) (fO h31 5 3) (fO h31 5 2) (tkC h31)) → ((121 - x16.toInt).toNat) < m19 → uRun oX8_readSum (uCall Mt (d + 5)) Q 7 ([some (.inr (.inr (some 5))), some (.inl a1), some (.inl x16), u17], [], h31, kc, ks) := by
    intro m19
    induction m19 with
    | zero => intro x16 u17 h31 hO31 hu31 iv33 px32 mm34; omega
    | succ m19 ih20 =>
      intro x16 u17 h31 hO31 hu31 iv33 px32 mm34
      obtain ⟨f36, f37, f38, f39, hc35, k40⟩ := ok_5 hO31
      have t41 := fO_of (k := 1) hc35 rfl
      have t42 := fO_of (k := 2) hc35 rfl
      have t43 := fO_of (k := 3) hc35 rfl
      have t44 := fO_of (k := 5) hc35 rfl
      refine ur_ldI rfl rfl ?_
      refine ur_ldA rfl rfl ?_
      refine ur_get rfl hc35 rfl ?_
      have z45 := any_r x16
      have z46 := any_r f36
      refine ur_if2 rfl (fun c47 => ?_) (fun c47 => ?_)
      · have t48 := le_to c47
        have t49 := tC_out (q := fO h31 5 2) (tC_un hO0 hO31 (hu15.tr hu31) (by decide) (by decide) pre0) (by omega)
        exact ur_ret0 rfl (hQ _ _ rfl hO31 (hu15.tr hu31) (by omega) (LCt.done (LCt.cast px32 (by omega) (by omega) rfl) (by omega) (by omega) (fun q => by unfold iop; omega)))
      · have t50 := le_no c47
        refine ur_ldA rfl rfl ?_
        refine ur_push rfl ?_
        refine ur_inl rfl (rcv_of hc35) (Nat.le_of_ble_eq_true rfl) (Nat.le_of_ble_eq_true rfl) (st_X8_isGoingOn hO31 _ (by show 33 ≤ (43 : Int32).toInt ∧ (43 : Int32).toInt ≤ 124; omega) (tC_un hO0 hO31 (hu15.tr hu31) (by decide) (by decide) pre0) (by omega) (fun w51 h55 hr52 hO55 hv55 hp53 hp54 => ?_))
        have hu55 := hv55
        obtain ⟨b56, rfl, t57, t58⟩ := hr52
        show uRun _ (uCall Mt _) _ 21 (_, [(.inl (bi b56))], _, _, _)
        refine ur_eqB rfl (fun c59 => ?_) (fun c59 => ?_)
        · have t60 := t58 c59
          clear t57 t58
          refine ur_ldA rfl rfl ?_
          refine ur_push rfl ?_
          obtain ⟨f62, f63, f64, f65, hc61, k66⟩ := ok_5 hO55
          have t67 := fO_of (k := 1) hc61 rfl
          have t68 := fO_of (k := 2) hc61 rfl
          have t69 := fO_of (k := 3) hc61 rfl
          have t70 := fO_of (k := 5) hc61 rfl
          refine ur_inl rfl (rcv_of hc61) (Nat.le_of_ble_eq_true rfl) (Nat.le_of_ble_eq_true rfl) (st_X8_isGoingOn hO55 _ (by show 33 ≤ (45 : Int32).toInt ∧ (45 : Int32).toInt ≤ 124; omega) (tC_un hO0 hO55 (hu15.tr (hu31.tr hu55)) (by decide) (by decide) pre0) (by omega) (fun w71 h75 hr72 hO75 hv75 hp73 hp74 => ?_))
          have hu75 := hv75
          obtain ⟨b76, rfl, t77, t78⟩ := hr72
          show uRun _ (uCall Mt _) _ 35 (_, [(.inl (bi b76))], _, _, _)
          refine ur_eqB rfl (fun c79 => ?_) (fun c79 => ?_)
          · have t80 := t78 c79
            clear t77 t78
            refine ur_push rfl ?_
            refine ur_svIk [some (.inr (.inr (some 5))), some (.inl a1), some (.inl x16), some (.inl 15)] rfl rfl ?_
            refine ur_ldI rfl rfl ?_
            refine ur_push rfl ?_
            refine ur_if2f rfl (by decide) ?_
            obtain ⟨f82, f83, f84, f85, hc81, k86⟩ := ok_5 hO75
            have t87 := fO_of (k := 1) hc81 rfl
            have t88 := fO_of (k := 2) hc81 rfl
            have t89 := fO_of (k := 3) hc81 rfl
            have t90 := fO_of (k := 5) hc81 rfl
            have t91 : t (fO h31 5 2) = t (fO h75 5 2) := congrArg t (by omega)
            have t92 : t (fO h55 5 2) = t (fO h75 5 2) := congrArg t (by omega)
            exact ur_ret0 rfl (hQ _ _ rfl hO75 (hu15.tr (hu31.tr (hu55.tr hu75))) (by omega) (LCt.done (LCt.cast px32 (by omega) (by omega) (hp74.trans hp54)) (by omega) (by omega) (fun q => by unfold iop; omega)))
          · have t93 := t77 c79
            clear t77 t78
            refine ur_push rfl ?_
            refine ur_go rfl ?_
            refine ur_svIk [some (.inr (.inr (some 5))), some (.inl a1), some (.inl x16), some (.inl 8)] rfl rfl ?_
            refine ur_ldI rfl rfl ?_
            refine ur_push rfl ?_
            refine ur_if2t rfl (by decide) ?_
            refine ur_ldA rfl rfl ?_
            refine ur_ldI rfl rfl ?_
            obtain ⟨f95, f96, f97, f98, hc94, k99⟩ := ok_5 hO75
            have t100 := fO_of (k := 1) hc94 rfl
            have t101 := fO_of (k := 2) hc94 rfl
            have t102 := fO_of (k := 3) hc94 rfl
            have t103 := fO_of (k := 5) hc94 rfl
            refine ur_inl rfl (rcv_of hc94) (Nat.le_of_ble_eq_true rfl) (Nat.le_of_ble_eq_true rfl) (st_X8_readProduct n rec hO75 _ (by show 0 ≤ a1.toInt ∧ a1.toInt ≤ 6; omega) (by show 6 ≤ a1.toInt + (n : Int); omega) (tC_un hO0 hO75 (hu15.tr (hu31.tr (hu55.tr hu75))) (by decide) (by decide) pre0) (by omega) (fun w104 h108 hr105 hO108 hv108 hp106 hp107 => ?_))
            have hu108 := hv108
            subst hr105
            show uRun _ (uCall Mt _) _ 58 (_, [], _, _, _)
            refine ur_ldA rfl rfl ?_
            refine ur_ldI rfl rfl ?_
            refine ur_push rfl ?_
            obtain ⟨f110, f111, f112, f113, hc109, k114⟩ := ok_5 hO108
            have t115 := fO_of (k := 1) hc109 rfl
            have t116 := fO_of (k := 2) hc109 rfl
            have t117 := fO_of (k := 3) hc109 rfl
            have t118 := fO_of (k := 5) hc109 rfl
            refine ur_inl rfl (rcv_of hc109) (Nat.le_of_ble_eq_true rfl) (Nat.le_of_ble_eq_true rfl) (st_X8_add hO108 _ (by show 0 ≤ (8 : Int32).toInt ∧ (8 : Int32).toInt ≤ 15; omega) _ (by show 0 ≤ (0 : Int32).toInt ∧ (0 : Int32).toInt ≤ 999999; omega) (by omega) (fun w119 h123 hr120 hO123 hv123 hp121 hp122 => ?_))
            have hu123 := hv123
            subst hr120
            show uRun _ (uCall Mt _) _ 64 (_, [], _, _, _)
            refine ur_incV (fun z => [some (.inr (.inr (some 5))), some (.inl a1), some (.inl z), some (.inl 8)]) rfl rfl (fun _ => rfl) (fun x124 e125 => ?_)
            have t126 := ti_add e125 (by omega) (by omega)
            refine ur_go rfl ?_
            obtain ⟨f128, f129, f130, f131, hc127, k132⟩ := ok_5 hO123
            have t133 := fO_of (k := 1) hc127 rfl
            have t134 := fO_of (k := 2) hc127 rfl
            have t135 := fO_of (k := 3) hc127 rfl
            have t136 := fO_of (k := 5) hc127 rfl
            have z137 := any_r x124
            exact ih20 x124 _ _ hO123 (hu31.tr (hu55.tr (hu75.tr (hu108.tr hu123)))) (by omega) (LCt.cast (LCt.op (c := 45) (f1 := fO h55 5 3) (p1 := fO h55 5 2) (LCt.cast px32 (by omega) (by omega) hp54) (by omega) (by omega) (by unfold iop; omega) (by omega) (by omega) (by omega) hp107 (by omega) rfl (by omega) hp74 hp122 (by decide)) (by omega) (by omega) rfl) (by omega)
        · have t138 := t57 c59
          clear t57 t58
          refine ur_push rfl ?_
          refine ur_go rfl ?_
          refine ur_svIk [some (.inr (.inr (some 5))), some (.inl a1), some (.inl x16), some (.inl 7)] rfl rfl ?_
          refine ur_ldI rfl rfl ?_
          refine ur_push rfl ?_
          refine ur_if2t rfl (by decide) ?_
          refine ur_ldA rfl rfl ?_
          refine ur_ldI rfl rfl ?_
          obtain ⟨f140, f141, f142, f143, hc139, k144⟩ := ok_5 hO55
          have t145 := fO_of (k := 1) hc139 rfl
          have t146 := fO_of (k := 2) hc139 rfl
          have t147 := fO_of (k := 3) hc139 rfl
          have t148 := fO_of (k := 5) hc139 rfl
          refine ur_inl rfl (rcv_of hc139) (Nat.le_of_ble_eq_true rfl) (Nat.le_of_ble_eq_true rfl) (st_X8_readProduct n rec hO55 _ (by show 0 ≤ a1.toInt ∧ a1.toInt ≤ 6; omega) (by show 6 ≤ a1.toInt + (n : Int); omega) (tC_un hO0 hO55 (hu15.tr (hu31.tr hu55)) (by decide) (by decide) pre0) (by omega) (fun w149 h153 hr150 hO153 hv153 hp151 hp152 => ?_))
          have hu153 := hv153
          subst hr150
          show uRun _ (uCall Mt _) _ 58 (_, [], _, _, _)
          refine ur_ldA rfl rfl ?_
          refine ur_ldI rfl rfl ?_
          refine ur_push rfl ?_
          obtain ⟨f155, f156, f157, f158, hc154, k159⟩ := ok_5 hO153
          have t160 := fO_of (k := 1) hc154 rfl
          have t161 := fO_of (k := 2) hc154 rfl
          have t162 := fO_of (k := 3) hc154 rfl
          have t163 := fO_of (k := 5) hc154 rfl
          refine ur_inl rfl (rcv_of hc154) (Nat.le_of_ble_eq_true rfl) (Nat.le_of_ble_eq_true rfl) (st_X8_add hO153 _ (by show 0 ≤ (7 : Int32).toInt ∧ (7 : Int32).toInt ≤ 15; omega) _ (by show 0 ≤ (0 : Int32).toInt ∧ (0 : Int32).toInt ≤ 999999; omega) (by omega) (fun w164 h168 hr165 hO168 hv168 hp166 hp167 => ?_))
          have hu168 := hv168
          subst hr165
          show uRun _ (uCall Mt _) _ 64 (_, [], _, _, _)
          refine ur_incV (fun z => [some (.inr (.inr (some 5))), some (.inl a1), some (.inl z), some (.inl 7)]) rfl rfl (fun _ => rfl) (fun x169 e170 => ?_)
          have t171 := ti_add e170 (by omega) (by omega)
          refine ur_go rfl ?_
          obtain ⟨f173, f174, f175, f176, hc172, k177⟩ := ok_5 hO168
          have t178 := fO_of (k := 1) hc172 rfl
          have t179 := fO_of (k := 2) hc172 rfl
          have t180 := fO_of (k := 3) hc172 rfl
          have t181 := fO_of (k := 5) hc172 rfl
          have z182 := any_r x169
          exact ih20 x169 _ _ hO168 (hu31.tr (hu55.tr (hu153.tr hu168))) (by omega) (LCt.cast (LCt.op (c := 43) (f1 := fO h31 5 3) (p1 := fO h31 5 2) (LCt.cast px32 (by omega) (by omega) rfl) (by omega) (by omega) (by unfold iop; omega) (by omega) (by omega) (by omega) hp152 (by omega) rfl (by omega) hp54 hp167 (by decide)) (by omega) (by omega) rfl) (by omega)
  exact L18 _ 0 (none) _ hO15 un.rf (by omega) (COt.up hp14 (by omega) (by omega) (by omega)) (Nat.lt_succ_self _)

set_option maxRecDepth 20000 in
set_option maxHeartbeats 4000000 in
theorem st_X8_readCompared {d kc ks : Nat} {h0 : aH} {Q : Option aV → aH → Prop} {t : Int → Int} (n : Nat) (rec : ∀ {kc ks : Nat} {h0 : aH} {Q : Option aV → aH → Prop}, OK h0 → ∀ (a1 : Int32), (0 ≤ a1.toInt ∧ a1.toInt ≤ 6) → (6 ≤ a1.toInt + (n : Int)) → (tC h0 = t) → (0 ≤ fO h0 5 2 ∧ fO h0 5 2 ≤ fO h0 5 1 ∧ fO h0 5 1 ≤ 120 ∧ fO h0 5 3 = -1 ∧ 0 ≤ fO h0 5 5 ∧ fO h0 5 5 ≤ fO h0 5 2) → (∀ r h', (r = none) → OK h' → un [] h0 h' → (0 ≤ fO h' 5 5 ∧ fO h' 5 5 - fO h' 5 2 ≤ fO h0 5 5 - fO h0 5 2 ∧ fO h0 5 2 ≤ fO h' 5 2 ∧ fO h' 5 2 ≤ fO h' 5 1 ∧ fO h' 5 1 = fO h0 5 1 ∧ fO h' 5 3 ≤ fO h' 5 1) → (COt t 0 a1.toInt (fO h0 5 2) (tkC h0) (fO h' 5 3) (fO h' 5 2) (tkC h')) → Q r h') → uCall Mt (d + 4) 106 [(.inr (.inr (some 5))), (.inl a1)] h0 kc ks Q) (hO0 : OK h0) (a1 : Int32) (b1 : 0 ≤ a1.toInt ∧ a1.toInt ≤ 6) (e1 : 6 ≤ a1.toInt + (n : Int)) (pre0 : tC h0 = t) (pre1 : 0 ≤ fO h0 5 2 ∧ fO h0 5 2 ≤ fO h0 5 1 ∧ fO h0 5 1 ≤ 120 ∧ fO h0 5 3 = -1 ∧ 0 ≤ fO h0 5 5 ∧ fO h0 5 5 ≤ fO h0 5 2) (hQ : ∀ r h', (r = none) → OK h' → un [] h0 h' → (0 ≤ fO h' 5 5 ∧ fO h' 5 5 - fO h' 5 2 ≤ fO h0 5 5 - fO h0 5 2 ∧ fO h0 5 2 ≤ fO h' 5 2 ∧ fO h' 5 2 ≤ fO h' 5 1 ∧ fO h' 5 1 = fO h0 5 1 ∧ fO h' 5 3 ≤ fO h' 5 1) → (COt t 3 a1.toInt (fO h0 5 2) (tkC h0) (fO h' 5 3) (fO h' 5 2) (tkC h')) → Q r h') : uCall Mt (d + 7) 103 [(.inr (.inr (some 5))), (.inl a1)] h0 kc ks Q := by
  have l_0 : ((0) : Int32).toInt = 0 := by decide
  have l_9 : ((9) : Int32).toInt = 9 := by decide
  have l_10 : ((10) : Int32).toInt = 10 := by decide
  have l_11 : ((11) : Int32).toInt = 11 := by decide
  have l_15 : ((15) : Int32).toInt = 15 := by decide
  have l_60 : ((60) : Int32).toInt = 60 := by decide
  have l_61 : ((61) : Int32).toInt = 61 := by decide
  have l_62 : ((62) : Int32).toInt = 62 := by decide
  refine uc_ink [some (.inr (.inr (some 5))), some (.inl a1), none] mt_103 (Nat.le_of_ble_eq_true rfl) rfl ?_
  obtain ⟨f2, f3, f4, f5, hc1, k6⟩ := ok_5 hO0
  have t7 := fO_of (k := 1) hc1 rfl
  have t8 := fO_of (k := 2) hc1 rfl
  have t9 := fO_of (k := 3) hc1 rfl
  have t10 := fO_of (k := 5) hc1 rfl
  refine ur_ldA rfl rfl ?_
  refine ur_ldI rfl rfl ?_
  refine ur_inl rfl (rcv_of hc1) (Nat.le_of_ble_eq_true rfl) (Nat.le_of_ble_eq_true rfl) (st_X8_readSum n rec hO0 _ (by show 0 ≤ a1.toInt ∧ a1.toInt ≤ 6; omega) (by show 6 ≤ a1.toInt + (n : Int); omega) pre0 (by omega) (fun w11 h15 hr12 hO15 hv15 hp13 hp14 => ?_))
  have hu15 := hv15
  subst hr12
  show uRun _ (uCall Mt _) _ 5 (_, [], _, _, _)
  refine ur_ldA rfl rfl ?_
  refine ur_push rfl ?_
  obtain ⟨f17, f18, f19, f20, hc16, k21⟩ := ok_5 hO15
  have t22 := fO_of (k := 1) hc16 rfl
  have t23 := fO_of (k := 2) hc16 rfl
  have t24 := fO_of (k := 3) hc16 rfl
  have t25 := fO_of (k := 5) hc16 rfl
  refine ur_inl rfl (rcv_of hc16) (Nat.le_of_ble_eq_true rfl) (Nat.le_of_ble_eq_true rfl) (st_X8_isGoingOn hO15 _ (by show 33 ≤ (60 : Int32).toInt ∧ (60 : Int32).toInt ≤ 124; omega) (tC_un hO0 hO15 hu15 (by decide) (by decide) pre0) (by omega) (fun w26 h30 hr27 hO30 hv30 hp28 hp29 => ?_))
  have hu30 := hv30
  obtain ⟨b31, rfl, t32, t33⟩ := hr27
  show uRun _ (uCall Mt _) _ 11 (_, [(.inl (bi b31))], _, _, _)
  refine ur_eqB rfl (fun c34 => ?_) (fun c34 => ?_)
  · have t35 := t33 c34
    clear t32 t33
    refine ur_ldA rfl rfl ?_
    refine ur_push rfl ?_
    obtain ⟨f37, f38, f39, f40, hc36, k41⟩ := ok_5 hO30
    have t42 := fO_of (k := 1) hc36 rfl
    have t43 := fO_of (k := 2) hc36 rfl
    have t44 := fO_of (k := 3) hc36 rfl
    have t45 := fO_of (k := 5) hc36 rfl
    refine ur_inl rfl (rcv_of hc36) (Nat.le_of_ble_eq_true rfl) (Nat.le_of_ble_eq_true rfl) (st_X8_isGoingOn hO30 _ (by show 33 ≤ (61 : Int32).toInt ∧ (61 : Int32).toInt ≤ 124; omega) (tC_un hO0 hO30 (hu15.tr hu30) (by decide) (by decide) pre0) (by omega) (fun w46 h50 hr47 hO50 hv50 hp48 hp49 => ?_))
    have hu50 := hv50
    obtain ⟨b51, rfl, t52, t53⟩ := hr47
    show uRun _ (uCall Mt _) _ 25 (_, [(.inl (bi b51))], _, _, _)
    refine ur_eqB rfl (fun c54 => ?_) (fun c54 => ?_)
    · have t55 := t53 c54
      clear t52 t53
      refine ur_ldA rfl rfl ?_
      refine ur_push rfl ?_
      obtain ⟨f57, f58, f59, f60, hc56, k61⟩ := ok_5 hO50
      have t62 := fO_of (k := 1) hc56 rfl
      have t63 := fO_of (k := 2) hc56 rfl
      have t64 := fO_of (k := 3) hc56 rfl
      have t65 := fO_of (k := 5) hc56 rfl
      refine ur_inl rfl (rcv_of hc56) (Nat.le_of_ble_eq_true rfl) (Nat.le_of_ble_eq_true rfl) (st_X8_isGoingOn hO50 _ (by show 33 ≤ (62 : Int32).toInt ∧ (62 : Int32).toInt ≤ 124; omega) (tC_un hO0 hO50 (hu15.tr (hu30.tr hu50)) (by decide) (by decide) pre0) (by omega) (fun w66 h70 hr67 hO70 hv70 hp68 hp69 => ?_))
      have hu70 := hv70
      obtain ⟨b71, rfl, t72, t73⟩ := hr67
      show uRun _ (uCall Mt _) _ 39 (_, [(.inl (bi b71))], _, _, _)
      refine ur_eqB rfl (fun c74 => ?_) (fun c74 => ?_)
      · have t75 := t73 c74
        clear t72 t73
        refine ur_push rfl ?_
        refine ur_svIk [some (.inr (.inr (some 5))), some (.inl a1), some (.inl 15)] rfl rfl ?_
        refine ur_ldI rfl rfl ?_
        refine ur_push rfl ?_
        refine ur_if2f rfl (by decide) ?_
        obtain ⟨f77, f78, f79, f80, hc76, k81⟩ := ok_5 hO70
        have t82 := fO_of (k := 1) hc76 rfl
        have t83 := fO_of (k := 2) hc76 rfl
        have t84 := fO_of (k := 3) hc76 rfl
        have t85 := fO_of (k := 5) hc76 rfl
        have t86 : t (fO h15 5 2) = t (fO h70 5 2) := congrArg t (by omega)
        have t87 : t (fO h30 5 2) = t (fO h70 5 2) := congrArg t (by omega)
        have t88 : t (fO h50 5 2) = t (fO h70 5 2) := congrArg t (by omega)
        exact ur_ret0 rfl (hQ _ _ rfl hO70 (hu15.tr (hu30.tr (hu50.tr hu70))) (by omega) (LCt.done (LCt.cast (COt.up (l := 3) hp14 (by omega) (by omega) (by omega)) (by omega) (by omega) (hp69.trans (hp49.trans hp29))) (by omega) (by omega) (fun q => by unfold iop; omega)))
      · have t89 := t72 c74
        clear t72 t73
        refine ur_push rfl ?_
        refine ur_go rfl ?_
        refine ur_svIk [some (.inr (.inr (some 5))), some (.inl a1), some (.inl 11)] rfl rfl ?_
        refine ur_ldI rfl rfl ?_
        refine ur_push rfl ?_
        refine ur_if2t rfl (by decide) ?_
        refine ur_ldA rfl rfl ?_
        refine ur_ldI rfl rfl ?_
        obtain ⟨f91, f92, f93, f94, hc90, k95⟩ := ok_5 hO70
        have t96 := fO_of (k := 1) hc90 rfl
        have t97 := fO_of (k := 2) hc90 rfl
        have t98 := fO_of (k := 3) hc90 rfl
        have t99 := fO_of (k := 5) hc90 rfl
        refine ur_inl rfl (rcv_of hc90) (Nat.le_of_ble_eq_true rfl) (Nat.le_of_ble_eq_true rfl) (st_X8_readSum n rec hO70 _ (by show 0 ≤ a1.toInt ∧ a1.toInt ≤ 6; omega) (by show 6 ≤ a1.toInt + (n : Int); omega) (tC_un hO0 hO70 (hu15.tr (hu30.tr (hu50.tr hu70))) (by decide) (by decide) pre0) (by omega) (fun w100 h104 hr101 hO104 hv104 hp102 hp103 => ?_))
        have hu104 := hv104
        subst hr101
        show uRun _ (uCall Mt _) _ 62 (_, [], _, _, _)
        refine ur_ldA rfl rfl ?_
        refine ur_ldI rfl rfl ?_
        refine ur_push rfl ?_
        obtain ⟨f106, f107, f108, f109, hc105, k110⟩ := ok_5 hO104
        have t111 := fO_of (k := 1) hc105 rfl
        have t112 := fO_of (k := 2) hc105 rfl
        have t113 := fO_of (k := 3) hc105 rfl
        have t114 := fO_of (k := 5) hc105 rfl
        refine ur_inl rfl (rcv_of hc105) (Nat.le_of_ble_eq_true rfl) (Nat.le_of_ble_eq_true rfl) (st_X8_add hO104 _ (by show 0 ≤ (11 : Int32).toInt ∧ (11 : Int32).toInt ≤ 15; omega) _ (by show 0 ≤ (0 : Int32).toInt ∧ (0 : Int32).toInt ≤ 999999; omega) (by omega) (fun w115 h119 hr116 hO119 hv119 hp117 hp118 => ?_))
        have hu119 := hv119
        subst hr116
        show uRun _ (uCall Mt _) _ 68 (_, [], _, _, _)
        obtain ⟨f121, f122, f123, f124, hc120, k125⟩ := ok_5 hO119
        have t126 := fO_of (k := 1) hc120 rfl
        have t127 := fO_of (k := 2) hc120 rfl
        have t128 := fO_of (k := 3) hc120 rfl
        have t129 := fO_of (k := 5) hc120 rfl
        exact ur_ret0 rfl (hQ _ _ rfl hO119 (hu15.tr (hu30.tr (hu50.tr (hu70.tr (hu104.tr hu119))))) (by omega) (COt.cast (LCt.op3 (c := 62) (f1 := fO h50 5 3) (p1 := fO h50 5 2) (LCt.cast (COt.up (l := 3) hp14 (by omega) (by omega) (by omega)) (by omega) (by omega) (hp49.trans hp29)) (by omega) (by omega) (by unfold iop; omega) hp103 rfl (by omega) hp69 hp118 (by decide)) (by omega) (by omega) rfl))
    · have t130 := t52 c54
      clear t52 t53
      refine ur_push rfl ?_
      refine ur_go rfl ?_
      refine ur_svIk [some (.inr (.inr (some 5))), some (.inl a1), some (.inl 10)] rfl rfl ?_
      refine ur_ldI rfl rfl ?_
      refine ur_push rfl ?_
      refine ur_if2t rfl (by decide) ?_
      refine ur_ldA rfl rfl ?_
      refine ur_ldI rfl rfl ?_
      obtain ⟨f132, f133, f134, f135, hc131, k136⟩ := ok_5 hO50
      have t137 := fO_of (k := 1) hc131 rfl
      have t138 := fO_of (k := 2) hc131 rfl
      have t139 := fO_of (k := 3) hc131 rfl
      have t140 := fO_of (k := 5) hc131 rfl
      refine ur_inl rfl (rcv_of hc131) (Nat.le_of_ble_eq_true rfl) (Nat.le_of_ble_eq_true rfl) (st_X8_readSum n rec hO50 _ (by show 0 ≤ a1.toInt ∧ a1.toInt ≤ 6; omega) (by show 6 ≤ a1.toInt + (n : Int); omega) (tC_un hO0 hO50 (hu15.tr (hu30.tr hu50)) (by decide) (by decide) pre0) (by omega) (fun w141 h145 hr142 hO145 hv145 hp143 hp144 => ?_))
      have hu145 := hv145
      subst hr142
      show uRun _ (uCall Mt _) _ 62 (_, [], _, _, _)
      refine ur_ldA rfl rfl ?_
      refine ur_ldI rfl rfl ?_
      refine ur_push rfl ?_
      obtain ⟨f147, f148, f149, f150, hc146, k151⟩ := ok_5 hO145
      have t152 := fO_of (k := 1) hc146 rfl
      have t153 := fO_of (k := 2) hc146 rfl
      have t154 := fO_of (k := 3) hc146 rfl
      have t155 := fO_of (k := 5) hc146 rfl
      refine ur_inl rfl (rcv_of hc146) (Nat.le_of_ble_eq_true rfl) (Nat.le_of_ble_eq_true rfl) (st_X8_add hO145 _ (by show 0 ≤ (10 : Int32).toInt ∧ (10 : Int32).toInt ≤ 15; omega) _ (by show 0 ≤ (0 : Int32).toInt ∧ (0 : Int32).toInt ≤ 999999; omega) (by omega) (fun w156 h160 hr157 hO160 hv160 hp158 hp159 => ?_))
      have hu160 := hv160
      subst hr157
      show uRun _ (uCall Mt _) _ 68 (_, [], _, _, _)
      obtain ⟨f162, f163, f164, f165, hc161, k166⟩ := ok_5 hO160
      have t167 := fO_of (k := 1) hc161 rfl
      have t168 := fO_of (k := 2) hc161 rfl
      have t169 := fO_of (k := 3) hc161 rfl
      have t170 := fO_of (k := 5) hc161 rfl
      exact ur_ret0 rfl (hQ _ _ rfl hO160 (hu15.tr (hu30.tr (hu50.tr (hu145.tr hu160)))) (by omega) (COt.cast (LCt.op3 (c := 61) (f1 := fO h30 5 3) (p1 := fO h30 5 2) (LCt.cast (COt.up (l := 3) hp14 (by omega) (by omega) (by omega)) (by omega) (by omega) hp29) (by omega) (by omega) (by unfold iop; omega) hp144 rfl (by omega) hp49 hp159 (by decide)) (by omega) (by omega) rfl))
  · have t171 := t32 c34
    clear t32 t33
    refine ur_push rfl ?_
    refine ur_go rfl ?_
    refine ur_svIk [some (.inr (.inr (some 5))), some (.inl a1), some (.inl 9)] rfl rfl ?_
    refine ur_ldI rfl rfl ?_
    refine ur_push rfl ?_
    refine ur_if2t rfl (by decide) ?_
    refine ur_ldA rfl rfl ?_
    refine ur_ldI rfl rfl ?_
    obtain ⟨f173, f174, f175, f176, hc172, k177⟩ := ok_5 hO30
    have t178 := fO_of (k := 1) hc172 rfl
    have t179 := fO_of (k := 2) hc172 rfl
    have t180 := fO_of (k := 3) hc172 rfl
    have t181 := fO_of (k := 5) hc172 rfl
    refine ur_inl rfl (rcv_of hc172) (Nat.le_of_ble_eq_true rfl) (Nat.le_of_ble_eq_true rfl) (st_X8_readSum n rec hO30 _ (by show 0 ≤ a1.toInt ∧ a1.toInt ≤ 6; omega) (by show 6 ≤ a1.toInt + (n : Int); omega) (tC_un hO0 hO30 (hu15.tr hu30) (by decide) (by decide) pre0) (by omega) (fun w182 h186 hr183 hO186 hv186 hp184 hp185 => ?_))
    have hu186 := hv186
    subst hr183
    show uRun _ (uCall Mt _) _ 62 (_, [], _, _, _)
    refine ur_ldA rfl rfl ?_
    refine ur_ldI rfl rfl ?_
    refine ur_push rfl ?_
    obtain ⟨f188, f189, f190, f191, hc187, k192⟩ := ok_5 hO186
    have t193 := fO_of (k := 1) hc187 rfl
    have t194 := fO_of (k := 2) hc187 rfl
    have t195 := fO_of (k := 3) hc187 rfl
    have t196 := fO_of (k := 5) hc187 rfl
    refine ur_inl rfl (rcv_of hc187) (Nat.le_of_ble_eq_true rfl) (Nat.le_of_ble_eq_true rfl) (st_X8_add hO186 _ (by show 0 ≤ (9 : Int32).toInt ∧ (9 : Int32).toInt ≤ 15; omega) _ (by show 0 ≤ (0 : Int32).toInt ∧ (0 : Int32).toInt ≤ 999999; omega) (by omega) (fun w197 h201 hr198 hO201 hv201 hp199 hp200 => ?_))
    have hu201 := hv201
    subst hr198
    show uRun _ (uCall Mt _) _ 68 (_, [], _, _, _)
    obtain ⟨f203, f204, f205, f206, hc202, k207⟩ := ok_5 hO201
    have t208 := fO_of (k := 1) hc202 rfl
    have t209 := fO_of (k := 2) hc202 rfl
    have t210 := fO_of (k := 3) hc202 rfl
    have t211 := fO_of (k := 5) hc202 rfl
    exact ur_ret0 rfl (hQ _ _ rfl hO201 (hu15.tr (hu30.tr (hu186.tr hu201))) (by omega) (COt.cast (LCt.op3 (c := 60) (f1 := fO h15 5 3) (p1 := fO h15 5 2) (LCt.cast (COt.up (l := 3) hp14 (by omega) (by omega) (by omega)) (by omega) (by omega) rfl) (by omega) (by omega) (by unfold iop; omega) hp185 rfl (by omega) hp29 hp200 (by decide)) (by omega) (by omega) rfl))

set_option maxRecDepth 20000 in
set_option maxHeartbeats 4000000 in
theorem st_X8_readBoth {d kc ks : Nat} {h0 : aH} {Q : Option aV → aH → Prop} {t : Int → Int} (n : Nat) (rec : ∀ {kc ks : Nat} {h0 : aH} {Q : Option aV → aH → Prop}, OK h0 → ∀ (a1 : Int32), (0 ≤ a1.toInt ∧ a1.toInt ≤ 6) → (6 ≤ a1.toInt + (n : Int)) → (tC h0 = t) → (0 ≤ fO h0 5 2 ∧ fO h0 5 2 ≤ fO h0 5 1 ∧ fO h0 5 1 ≤ 120 ∧ fO h0 5 3 = -1 ∧ 0 ≤ fO h0 5 5 ∧ fO h0 5 5 ≤ fO h0 5 2) → (∀ r h', (r = none) → OK h' → un [] h0 h' → (0 ≤ fO h' 5 5 ∧ fO h' 5 5 - fO h' 5 2 ≤ fO h0 5 5 - fO h0 5 2 ∧ fO h0 5 2 ≤ fO h' 5 2 ∧ fO h' 5 2 ≤ fO h' 5 1 ∧ fO h' 5 1 = fO h0 5 1 ∧ fO h' 5 3 ≤ fO h' 5 1) → (COt t 0 a1.toInt (fO h0 5 2) (tkC h0) (fO h' 5 3) (fO h' 5 2) (tkC h')) → Q r h') → uCall Mt (d + 4) 106 [(.inr (.inr (some 5))), (.inl a1)] h0 kc ks Q) (hO0 : OK h0) (a1 : Int32) (b1 : 0 ≤ a1.toInt ∧ a1.toInt ≤ 6) (e1 : 6 ≤ a1.toInt + (n : Int)) (pre0 : tC h0 = t) (pre1 : 0 ≤ fO h0 5 2 ∧ fO h0 5 2 ≤ fO h0 5 1 ∧ fO h0 5 1 ≤ 120 ∧ fO h0 5 3 = -1 ∧ 0 ≤ fO h0 5 5 ∧ fO h0 5 5 ≤ fO h0 5 2) (hQ : ∀ r h', (r = none) → OK h' → un [] h0 h' → (0 ≤ fO h' 5 5 ∧ fO h' 5 5 - fO h' 5 2 ≤ fO h0 5 5 - fO h0 5 2 ∧ fO h0 5 2 ≤ fO h' 5 2 ∧ fO h' 5 2 ≤ fO h' 5 1 ∧ fO h' 5 1 = fO h0 5 1 ∧ fO h' 5 3 ≤ fO h' 5 1) → (COt t 4 a1.toInt (fO h0 5 2) (tkC h0) (fO h' 5 3) (fO h' 5 2) (tkC h')) → Q r h') : uCall Mt (d + 8) 102 [(.inr (.inr (some 5))), (.inl a1)] h0 kc ks Q := by
  have l_0 : ((0) : Int32).toInt = 0 := by decide
  have l_1 : ((1) : Int32).toInt = 1 := by decide
  have l_12 : ((12) : Int32).toInt = 12 := by decide
  have l_38 : ((38) : Int32).toInt = 38 := by decide
  refine uc_ink [some (.inr (.inr (some 5))), some (.inl a1), none] mt_102 (Nat.le_of_ble_eq_true rfl) rfl ?_
  obtain ⟨f2, f3, f4, f5, hc1, k6⟩ := ok_5 hO0
  have t7 := fO_of (k := 1) hc1 rfl
  have t8 := fO_of (k := 2) hc1 rfl
  have t9 := fO_of (k := 3) hc1 rfl
  have t10 := fO_of (k := 5) hc1 rfl
  refine ur_ldA rfl rfl ?_
  refine ur_ldI rfl rfl ?_
  refine ur_inl rfl (rcv_of hc1) (Nat.le_of_ble_eq_true rfl) (Nat.le_of_ble_eq_true rfl) (st_X8_readCompared n rec hO0 _ (by show 0 ≤ a1.toInt ∧ a1.toInt ≤ 6; omega) (by show 6 ≤ a1.toInt + (n : Int); omega) pre0 (by omega) (fun w11 h15 hr12 hO15 hv15 hp13 hp14 => ?_))
  have hu15 := hv15
  subst hr12
  show uRun _ (uCall Mt _) _ 5 (_, [], _, _, _)
  refine ur_push rfl ?_
  refine ur_svIk [some (.inr (.inr (some 5))), some (.inl a1), some (.inl 0)] rfl rfl ?_
  obtain ⟨f21, f22, f23, f24, hc20, k25⟩ := ok_5 hO15
  have t26 := fO_of (k := 1) hc20 rfl
  have t27 := fO_of (k := 2) hc20 rfl
  have t28 := fO_of (k := 3) hc20 rfl
  have t29 := fO_of (k := 5) hc20 rfl
  have L17 : ∀ (m18 : Nat) (x16 : Int32) (h30 : aH) , OK h30 → un [] h15 h30 → ((0 ≤ x16.toInt ∧ x16.toInt ≤ 120) ∧ x16.toInt ≤ fO h30 5 2 ∧ 0 ≤ fO h30 5 5 ∧ fO h30 5 5 - fO h30 5 2 ≤ fO h0 5 5 - fO h0 5 2 ∧ fO h0 5 2 ≤ fO h30 5 2 ∧ fO h30 5 2 ≤ fO h30 5 1 ∧ fO h30 5 1 = fO h0 5 1 ∧ fO h30 5 3 ≤ fO h30 5 1) → (LCt t 4 a1.toInt (fO h0 5 2) (tkC h0) (fO h30 5 3) (fO h30 5 2) (tkC h30)) → ((121 - x16.toInt).toNat) < m18 → uRun oX8_readBoth (uCall Mt (d + 7)) Q 7 ([some (.inr (.inr (some 5))), some (.inl a1), some (.inl x16)], [], h30, kc, ks) := by
    intro m18
    induction m18 with
    | zero => intro x16 h30 hO30 hu30 iv32 px31 mm33; omega
    | succ m18 ih19 =>
      intro x16 h30 hO30 hu30 iv32 px31 mm33
      obtain ⟨f35, f36, f37, f38, hc34, k39⟩ := ok_5 hO30
      have t40 := fO_of (k := 1) hc34 rfl
      have t41 := fO_of (k := 2) hc34 rfl
      have t42 := fO_of (k := 3) hc34 rfl
      have t43 := fO_of (k := 5) hc34 rfl
      refine ur_ldI rfl rfl ?_
      refine ur_ldA rfl rfl ?_
      refine ur_get rfl hc34 rfl ?_
      have z44 := any_r x16
      have z45 := any_r f35
      refine ur_if2 rfl (fun c46 => ?_) (fun c46 => ?_)
      · have t47 := le_to c46
        have t48 := tC_out (q := fO h30 5 2) (tC_un hO0 hO30 (hu15.tr hu30) (by decide) (by decide) pre0) (by omega)
        exact ur_ret0 rfl (hQ _ _ rfl hO30 (hu15.tr hu30) (by omega) (LCt.done (LCt.cast px31 (by omega) (by omega) rfl) (by omega) (by omega) (fun q => by unfold iop; omega)))
      · have t49 := le_no c46
        refine ur_ldA rfl rfl ?_
        refine ur_push rfl ?_
        refine ur_inl rfl (rcv_of hc34) (Nat.le_of_ble_eq_true rfl) (Nat.le_of_ble_eq_true rfl) (st_X8_isGoingOn hO30 _ (by show 33 ≤ (38 : Int32).toInt ∧ (38 : Int32).toInt ≤ 124; omega) (tC_un hO0 hO30 (hu15.tr hu30) (by decide) (by decide) pre0) (by omega) (fun w50 h54 hr51 hO54 hv54 hp52 hp53 => ?_))
        have hu54 := hv54
        obtain ⟨b55, rfl, t56, t57⟩ := hr51
        show uRun _ (uCall Mt _) _ 21 (_, [(.inl (bi b55))], _, _, _)
        refine ur_eqB rfl (fun c58 => ?_) (fun c58 => ?_)
        · have t59 := t57 c58
          clear t56 t57
          obtain ⟨f61, f62, f63, f64, hc60, k65⟩ := ok_5 hO54
          have t66 := fO_of (k := 1) hc60 rfl
          have t67 := fO_of (k := 2) hc60 rfl
          have t68 := fO_of (k := 3) hc60 rfl
          have t69 := fO_of (k := 5) hc60 rfl
          have t70 : t (fO h30 5 2) = t (fO h54 5 2) := congrArg t (by omega)
          exact ur_ret0 rfl (hQ _ _ rfl hO54 (hu15.tr (hu30.tr hu54)) (by omega) (LCt.done (LCt.cast px31 (by omega) (by omega) hp53) (by omega) (by omega) (fun q => by unfold iop; omega)))
        · have t71 := t56 c58
          clear t56 t57
          refine ur_ldA rfl rfl ?_
          refine ur_ldI rfl rfl ?_
          obtain ⟨f73, f74, f75, f76, hc72, k77⟩ := ok_5 hO54
          have t78 := fO_of (k := 1) hc72 rfl
          have t79 := fO_of (k := 2) hc72 rfl
          have t80 := fO_of (k := 3) hc72 rfl
          have t81 := fO_of (k := 5) hc72 rfl
          refine ur_inl rfl (rcv_of hc72) (Nat.le_of_ble_eq_true rfl) (Nat.le_of_ble_eq_true rfl) (st_X8_readCompared n rec hO54 _ (by show 0 ≤ a1.toInt ∧ a1.toInt ≤ 6; omega) (by show 6 ≤ a1.toInt + (n : Int); omega) (tC_un hO0 hO54 (hu15.tr (hu30.tr hu54)) (by decide) (by decide) pre0) (by omega) (fun w82 h86 hr83 hO86 hv86 hp84 hp85 => ?_))
          have hu86 := hv86
          subst hr83
          show uRun _ (uCall Mt _) _ 29 (_, [], _, _, _)
          refine ur_ldA rfl rfl ?_
          refine ur_push rfl ?_
          refine ur_push rfl ?_
          obtain ⟨f88, f89, f90, f91, hc87, k92⟩ := ok_5 hO86
          have t93 := fO_of (k := 1) hc87 rfl
          have t94 := fO_of (k := 2) hc87 rfl
          have t95 := fO_of (k := 3) hc87 rfl
          have t96 := fO_of (k := 5) hc87 rfl
          refine ur_inl rfl (rcv_of hc87) (Nat.le_of_ble_eq_true rfl) (Nat.le_of_ble_eq_true rfl) (st_X8_add hO86 _ (by show 0 ≤ (12 : Int32).toInt ∧ (12 : Int32).toInt ≤ 15; omega) _ (by show 0 ≤ (0 : Int32).toInt ∧ (0 : Int32).toInt ≤ 999999; omega) (by omega) (fun w97 h101 hr98 hO101 hv101 hp99 hp100 => ?_))
          have hu101 := hv101
          subst hr98
          show uRun _ (uCall Mt _) _ 36 (_, [], _, _, _)
          refine ur_incV (fun z => [some (.inr (.inr (some 5))), some (.inl a1), some (.inl z)]) rfl rfl (fun _ => rfl) (fun x102 e103 => ?_)
          have t104 := ti_add e103 (by omega) (by omega)
          refine ur_go rfl ?_
          obtain ⟨f106, f107, f108, f109, hc105, k110⟩ := ok_5 hO101
          have t111 := fO_of (k := 1) hc105 rfl
          have t112 := fO_of (k := 2) hc105 rfl
          have t113 := fO_of (k := 3) hc105 rfl
          have t114 := fO_of (k := 5) hc105 rfl
          have z115 := any_r x102
          exact ih19 x102 _ hO101 (hu30.tr (hu54.tr (hu86.tr hu101))) (by omega) (LCt.cast (LCt.op (c := 38) (f1 := fO h30 5 3) (p1 := fO h30 5 2) (LCt.cast px31 (by omega) (by omega) rfl) (by omega) (by omega) (by unfold iop; omega) (by omega) (by omega) (by omega) hp85 (by omega) rfl (by omega) hp53 hp100 (by decide)) (by omega) (by omega) rfl) (by omega)
  exact L17 _ 0 _ hO15 un.rf (by omega) (COt.up hp14 (by omega) (by omega) (by omega)) (Nat.lt_succ_self _)

set_option maxRecDepth 20000 in
set_option maxHeartbeats 4000000 in
theorem st_X8_readEither {d kc ks : Nat} {h0 : aH} {Q : Option aV → aH → Prop} {t : Int → Int} (n : Nat) (rec : ∀ {kc ks : Nat} {h0 : aH} {Q : Option aV → aH → Prop}, OK h0 → ∀ (a1 : Int32), (0 ≤ a1.toInt ∧ a1.toInt ≤ 6) → (6 ≤ a1.toInt + (n : Int)) → (tC h0 = t) → (0 ≤ fO h0 5 2 ∧ fO h0 5 2 ≤ fO h0 5 1 ∧ fO h0 5 1 ≤ 120 ∧ fO h0 5 3 = -1 ∧ 0 ≤ fO h0 5 5 ∧ fO h0 5 5 ≤ fO h0 5 2) → (∀ r h', (r = none) → OK h' → un [] h0 h' → (0 ≤ fO h' 5 5 ∧ fO h' 5 5 - fO h' 5 2 ≤ fO h0 5 5 - fO h0 5 2 ∧ fO h0 5 2 ≤ fO h' 5 2 ∧ fO h' 5 2 ≤ fO h' 5 1 ∧ fO h' 5 1 = fO h0 5 1 ∧ fO h' 5 3 ≤ fO h' 5 1) → (COt t 0 a1.toInt (fO h0 5 2) (tkC h0) (fO h' 5 3) (fO h' 5 2) (tkC h')) → Q r h') → uCall Mt (d + 4) 106 [(.inr (.inr (some 5))), (.inl a1)] h0 kc ks Q) (hO0 : OK h0) (a1 : Int32) (b1 : 0 ≤ a1.toInt ∧ a1.toInt ≤ 6) (e1 : 6 ≤ a1.toInt + (n : Int)) (pre0 : tC h0 = t) (pre1 : 0 ≤ fO h0 5 2 ∧ fO h0 5 2 ≤ fO h0 5 1 ∧ fO h0 5 1 ≤ 120 ∧ fO h0 5 3 = -1 ∧ 0 ≤ fO h0 5 5 ∧ fO h0 5 5 ≤ fO h0 5 2) (hQ : ∀ r h', (r = none) → OK h' → un [] h0 h' → (0 ≤ fO h' 5 5 ∧ fO h' 5 5 - fO h' 5 2 ≤ fO h0 5 5 - fO h0 5 2 ∧ fO h0 5 2 ≤ fO h' 5 2 ∧ fO h' 5 2 ≤ fO h' 5 1 ∧ fO h' 5 1 = fO h0 5 1 ∧ fO h' 5 3 ≤ fO h' 5 1) → (COt t 5 a1.toInt (fO h0 5 2) (tkC h0) (fO h' 5 3) (fO h' 5 2) (tkC h')) → Q r h') : uCall Mt (d + 9) 101 [(.inr (.inr (some 5))), (.inl a1)] h0 kc ks Q := by
  have l_0 : ((0) : Int32).toInt = 0 := by decide
  have l_1 : ((1) : Int32).toInt = 1 := by decide
  have l_13 : ((13) : Int32).toInt = 13 := by decide
  have l_124 : ((124) : Int32).toInt = 124 := by decide
  refine uc_ink [some (.inr (.inr (some 5))), some (.inl a1), none] mt_101 (Nat.le_of_ble_eq_true rfl) rfl ?_
  obtain ⟨f2, f3, f4, f5, hc1, k6⟩ := ok_5 hO0
  have t7 := fO_of (k := 1) hc1 rfl
  have t8 := fO_of (k := 2) hc1 rfl
  have t9 := fO_of (k := 3) hc1 rfl
  have t10 := fO_of (k := 5) hc1 rfl
  refine ur_ldA rfl rfl ?_
  refine ur_ldI rfl rfl ?_
  refine ur_inl rfl (rcv_of hc1) (Nat.le_of_ble_eq_true rfl) (Nat.le_of_ble_eq_true rfl) (st_X8_readBoth n rec hO0 _ (by show 0 ≤ a1.toInt ∧ a1.toInt ≤ 6; omega) (by show 6 ≤ a1.toInt + (n : Int); omega) pre0 (by omega) (fun w11 h15 hr12 hO15 hv15 hp13 hp14 => ?_))
  have hu15 := hv15
  subst hr12
  show uRun _ (uCall Mt _) _ 5 (_, [], _, _, _)
  refine ur_push rfl ?_
  refine ur_svIk [some (.inr (.inr (some 5))), some (.inl a1), some (.inl 0)] rfl rfl ?_
  obtain ⟨f21, f22, f23, f24, hc20, k25⟩ := ok_5 hO15
  have t26 := fO_of (k := 1) hc20 rfl
  have t27 := fO_of (k := 2) hc20 rfl
  have t28 := fO_of (k := 3) hc20 rfl
  have t29 := fO_of (k := 5) hc20 rfl
  have L17 : ∀ (m18 : Nat) (x16 : Int32) (h30 : aH) , OK h30 → un [] h15 h30 → ((0 ≤ x16.toInt ∧ x16.toInt ≤ 120) ∧ x16.toInt ≤ fO h30 5 2 ∧ 0 ≤ fO h30 5 5 ∧ fO h30 5 5 - fO h30 5 2 ≤ fO h0 5 5 - fO h0 5 2 ∧ fO h0 5 2 ≤ fO h30 5 2 ∧ fO h30 5 2 ≤ fO h30 5 1 ∧ fO h30 5 1 = fO h0 5 1 ∧ fO h30 5 3 ≤ fO h30 5 1) → (LCt t 5 a1.toInt (fO h0 5 2) (tkC h0) (fO h30 5 3) (fO h30 5 2) (tkC h30)) → ((121 - x16.toInt).toNat) < m18 → uRun oX8_readEither (uCall Mt (d + 8)) Q 7 ([some (.inr (.inr (some 5))), some (.inl a1), some (.inl x16)], [], h30, kc, ks) := by
    intro m18
    induction m18 with
    | zero => intro x16 h30 hO30 hu30 iv32 px31 mm33; omega
    | succ m18 ih19 =>
      intro x16 h30 hO30 hu30 iv32 px31 mm33
      obtain ⟨f35, f36, f37, f38, hc34, k39⟩ := ok_5 hO30
      have t40 := fO_of (k := 1) hc34 rfl
      have t41 := fO_of (k := 2) hc34 rfl
      have t42 := fO_of (k := 3) hc34 rfl
      have t43 := fO_of (k := 5) hc34 rfl
      refine ur_ldI rfl rfl ?_
      refine ur_ldA rfl rfl ?_
      refine ur_get rfl hc34 rfl ?_
      have z44 := any_r x16
      have z45 := any_r f35
      refine ur_if2 rfl (fun c46 => ?_) (fun c46 => ?_)
      · have t47 := le_to c46
        have t48 := tC_out (q := fO h30 5 2) (tC_un hO0 hO30 (hu15.tr hu30) (by decide) (by decide) pre0) (by omega)
        exact ur_ret0 rfl (hQ _ _ rfl hO30 (hu15.tr hu30) (by omega) (LCt.done (LCt.cast px31 (by omega) (by omega) rfl) (by omega) (by omega) (fun q => by unfold iop; omega)))
      · have t49 := le_no c46
        refine ur_ldA rfl rfl ?_
        refine ur_push rfl ?_
        refine ur_inl rfl (rcv_of hc34) (Nat.le_of_ble_eq_true rfl) (Nat.le_of_ble_eq_true rfl) (st_X8_isGoingOn hO30 _ (by show 33 ≤ (124 : Int32).toInt ∧ (124 : Int32).toInt ≤ 124; omega) (tC_un hO0 hO30 (hu15.tr hu30) (by decide) (by decide) pre0) (by omega) (fun w50 h54 hr51 hO54 hv54 hp52 hp53 => ?_))
        have hu54 := hv54
        obtain ⟨b55, rfl, t56, t57⟩ := hr51
        show uRun _ (uCall Mt _) _ 21 (_, [(.inl (bi b55))], _, _, _)
        refine ur_eqB rfl (fun c58 => ?_) (fun c58 => ?_)
        · have t59 := t57 c58
          clear t56 t57
          obtain ⟨f61, f62, f63, f64, hc60, k65⟩ := ok_5 hO54
          have t66 := fO_of (k := 1) hc60 rfl
          have t67 := fO_of (k := 2) hc60 rfl
          have t68 := fO_of (k := 3) hc60 rfl
          have t69 := fO_of (k := 5) hc60 rfl
          have t70 : t (fO h30 5 2) = t (fO h54 5 2) := congrArg t (by omega)
          exact ur_ret0 rfl (hQ _ _ rfl hO54 (hu15.tr (hu30.tr hu54)) (by omega) (LCt.done (LCt.cast px31 (by omega) (by omega) hp53) (by omega) (by omega) (fun q => by unfold iop; omega)))
        · have t71 := t56 c58
          clear t56 t57
          refine ur_ldA rfl rfl ?_
          refine ur_ldI rfl rfl ?_
          obtain ⟨f73, f74, f75, f76, hc72, k77⟩ := ok_5 hO54
          have t78 := fO_of (k := 1) hc72 rfl
          have t79 := fO_of (k := 2) hc72 rfl
          have t80 := fO_of (k := 3) hc72 rfl
          have t81 := fO_of (k := 5) hc72 rfl
          refine ur_inl rfl (rcv_of hc72) (Nat.le_of_ble_eq_true rfl) (Nat.le_of_ble_eq_true rfl) (st_X8_readBoth n rec hO54 _ (by show 0 ≤ a1.toInt ∧ a1.toInt ≤ 6; omega) (by show 6 ≤ a1.toInt + (n : Int); omega) (tC_un hO0 hO54 (hu15.tr (hu30.tr hu54)) (by decide) (by decide) pre0) (by omega) (fun w82 h86 hr83 hO86 hv86 hp84 hp85 => ?_))
          have hu86 := hv86
          subst hr83
          show uRun _ (uCall Mt _) _ 29 (_, [], _, _, _)
          refine ur_ldA rfl rfl ?_
          refine ur_push rfl ?_
          refine ur_push rfl ?_
          obtain ⟨f88, f89, f90, f91, hc87, k92⟩ := ok_5 hO86
          have t93 := fO_of (k := 1) hc87 rfl
          have t94 := fO_of (k := 2) hc87 rfl
          have t95 := fO_of (k := 3) hc87 rfl
          have t96 := fO_of (k := 5) hc87 rfl
          refine ur_inl rfl (rcv_of hc87) (Nat.le_of_ble_eq_true rfl) (Nat.le_of_ble_eq_true rfl) (st_X8_add hO86 _ (by show 0 ≤ (13 : Int32).toInt ∧ (13 : Int32).toInt ≤ 15; omega) _ (by show 0 ≤ (0 : Int32).toInt ∧ (0 : Int32).toInt ≤ 999999; omega) (by omega) (fun w97 h101 hr98 hO101 hv101 hp99 hp100 => ?_))
          have hu101 := hv101
          subst hr98
          show uRun _ (uCall Mt _) _ 36 (_, [], _, _, _)
          refine ur_incV (fun z => [some (.inr (.inr (some 5))), some (.inl a1), some (.inl z)]) rfl rfl (fun _ => rfl) (fun x102 e103 => ?_)
          have t104 := ti_add e103 (by omega) (by omega)
          refine ur_go rfl ?_
          obtain ⟨f106, f107, f108, f109, hc105, k110⟩ := ok_5 hO101
          have t111 := fO_of (k := 1) hc105 rfl
          have t112 := fO_of (k := 2) hc105 rfl
          have t113 := fO_of (k := 3) hc105 rfl
          have t114 := fO_of (k := 5) hc105 rfl
          have z115 := any_r x102
          exact ih19 x102 _ hO101 (hu30.tr (hu54.tr (hu86.tr hu101))) (by omega) (LCt.cast (LCt.op (c := 124) (f1 := fO h30 5 3) (p1 := fO h30 5 2) (LCt.cast px31 (by omega) (by omega) rfl) (by omega) (by omega) (by unfold iop; omega) (by omega) (by omega) (by omega) hp85 (by omega) rfl (by omega) hp53 hp100 (by decide)) (by omega) (by omega) rfl) (by omega)
  exact L17 _ 0 _ hO15 un.rf (by omega) (COt.up hp14 (by omega) (by omega) (by omega)) (Nat.lt_succ_self _)

set_option maxRecDepth 20000 in
set_option maxHeartbeats 4000000 in
theorem st_X8_op_s {d kc ks : Nat} {h0 : aH} {Q : Option aV → aH → Prop} {t : Int → Int} (n : Nat) (rec : ∀ {kc ks : Nat} {h0 : aH} {Q : Option aV → aH → Prop}, OK h0 → ∀ (a1 : Int32), (0 ≤ a1.toInt ∧ a1.toInt ≤ 6) → (6 ≤ a1.toInt + (n : Int)) → (tC h0 = t) → (0 ≤ fO h0 5 2 ∧ fO h0 5 2 ≤ fO h0 5 1 ∧ fO h0 5 1 ≤ 120 ∧ fO h0 5 3 = -1 ∧ 0 ≤ fO h0 5 5 ∧ fO h0 5 5 ≤ fO h0 5 2) → (∀ r h', (r = none) → OK h' → un [] h0 h' → (0 ≤ fO h' 5 5 ∧ fO h' 5 5 - fO h' 5 2 ≤ fO h0 5 5 - fO h0 5 2 ∧ fO h0 5 2 ≤ fO h' 5 2 ∧ fO h' 5 2 ≤ fO h' 5 1 ∧ fO h' 5 1 = fO h0 5 1 ∧ fO h' 5 3 ≤ fO h' 5 1) → (COt t 0 a1.toInt (fO h0 5 2) (tkC h0) (fO h' 5 3) (fO h' 5 2) (tkC h')) → Q r h') → uCall Mt (d + 4) 106 [(.inr (.inr (some 5))), (.inl a1)] h0 kc ks Q) (rec9 : ∀ {kc ks : Nat} {h0 : aH} {Q : Option aV → aH → Prop}, OK h0 → ∀ (a1 : Int32), (0 ≤ a1.toInt ∧ a1.toInt ≤ 6) → (6 ≤ a1.toInt + (n : Int)) → (tC h0 = t) → (0 ≤ fO h0 5 2 ∧ fO h0 5 2 ≤ fO h0 5 1 ∧ fO h0 5 1 ≤ 120 ∧ fO h0 5 3 = -1 ∧ 0 ≤ fO h0 5 5 ∧ fO h0 5 5 ≤ fO h0 5 2) → (∀ r h', (r = none) → OK h' → un [] h0 h' → (0 ≤ fO h' 5 5 ∧ fO h' 5 5 - fO h' 5 2 ≤ fO h0 5 5 - fO h0 5 2 ∧ fO h0 5 2 ≤ fO h' 5 2 ∧ fO h' 5 2 ≤ fO h' 5 1 ∧ fO h' 5 1 = fO h0 5 1 ∧ fO h' 5 3 ≤ fO h' 5 1) → (COt t 0 a1.toInt (fO h0 5 2) (tkC h0) (fO h' 5 3) (fO h' 5 2) (tkC h')) → Q r h') → uCall Mt (d + 9) 106 [(.inr (.inr (some 5))), (.inl a1)] h0 kc ks Q) (hO0 : OK h0) (a1 : Int32) (b1 : 0 ≤ a1.toInt ∧ a1.toInt ≤ 6) (e1 : 6 ≤ a1.toInt + ((n + 1 : Nat) : Int)) (pre0 : tC h0 = t) (pre1 : 0 ≤ fO h0 5 2 ∧ fO h0 5 2 ≤ fO h0 5 1 ∧ fO h0 5 1 ≤ 120 ∧ fO h0 5 3 = -1 ∧ 0 ≤ fO h0 5 5 ∧ fO h0 5 5 ≤ fO h0 5 2) (hQ : ∀ r h', (r = none) → OK h' → un [] h0 h' → (0 ≤ fO h' 5 5 ∧ fO h' 5 5 - fO h' 5 2 ≤ fO h0 5 5 - fO h0 5 2 ∧ fO h0 5 2 ≤ fO h' 5 2 ∧ fO h' 5 2 ≤ fO h' 5 1 ∧ fO h' 5 1 = fO h0 5 1 ∧ fO h' 5 3 ≤ fO h' 5 1) → (COt t 0 a1.toInt (fO h0 5 2) (tkC h0) (fO h' 5 3) (fO h' 5 2) (tkC h')) → Q r h') : uCall Mt (d + 10) 106 [(.inr (.inr (some 5))), (.inl a1)] h0 kc ks Q := by
  have l_0 : ((0) : Int32).toInt = 0 := by decide
  have l_1 : ((1) : Int32).toInt = 1 := by decide
  have l_2 : ((2) : Int32).toInt = 2 := by decide
  have l_3 : ((3) : Int32).toInt = 3 := by decide
  have l_6 : ((6) : Int32).toInt = 6 := by decide
  have l_33 : ((33) : Int32).toInt = 33 := by decide
  have l_40 : ((40) : Int32).toInt = 40 := by decide
  have l_41 : ((41) : Int32).toInt = 41 := by decide
  have l_45 : ((45) : Int32).toInt = 45 := by decide
  have l_48 : ((48) : Int32).toInt = 48 := by decide
  have l_57 : ((57) : Int32).toInt = 57 := by decide
  have l_97 : ((97) : Int32).toInt = 97 := by decide
  have l_122 : ((122) : Int32).toInt = 122 := by decide
  refine uc_ink [some (.inr (.inr (some 5))), some (.inl a1), none] mt_106 (Nat.le_of_ble_eq_true rfl) rfl ?_
  obtain ⟨f2, f3, f4, f5, hc1, k6⟩ := ok_5 hO0
  have t7 := fO_of (k := 1) hc1 rfl
  have t8 := fO_of (k := 2) hc1 rfl
  have t9 := fO_of (k := 3) hc1 rfl
  have t10 := fO_of (k := 5) hc1 rfl
  refine ur_ldA rfl rfl ?_
  refine ur_inl rfl (rcv_of hc1) (Nat.le_of_ble_eq_true rfl) (Nat.le_of_ble_eq_true rfl) (st_X8_here hO0 pre0 (fun w11 hr12 => ?_))
  obtain ⟨x13, rfl, t14⟩ := hr12
  show uRun _ (uCall Mt _) _ 4 (_, [(.inl x13)], _, _, _)
  refine ur_svIk [some (.inr (.inr (some 5))), some (.inl a1), some (.inl x13)] rfl rfl ?_
  refine ur_ldI rfl rfl ?_
  refine ur_push rfl ?_
  refine ur_push rfl ?_
  refine ur_callv rfl rfl (Nat.le_of_ble_eq_true rfl) (Nat.le_of_ble_eq_true rfl) rfl (sp_within _ _ _ _ _) ?_
  refine ur_eqB rfl (fun c17 => ?_) (fun c17 => ?_)
  · have t18 := wi_noL c17 l_48 l_57
    refine ur_ldI rfl rfl ?_
    refine ur_push rfl ?_
    refine ur_push rfl ?_
    refine ur_callv rfl rfl (Nat.le_of_ble_eq_true rfl) (Nat.le_of_ble_eq_true rfl) rfl (sp_within _ _ _ _ _) ?_
    refine ur_eqB rfl (fun c21 => ?_) (fun c21 => ?_)
    · have t22 := wi_noL c21 l_97 l_122
      have t23 := nmc_lo (c := x13.toInt) (by omega)
      refine ur_ldI rfl rfl ?_
      refine ur_push rfl ?_
      refine ur_if2 rfl (fun c24 => ?_) (fun c24 => ?_)
      · have t25 := lt_to c24
        refine ur_ldA rfl rfl ?_
        refine ur_push rfl ?_
        refine ur_inl rfl (rcv_of hc1) (Nat.le_of_ble_eq_true rfl) (Nat.le_of_ble_eq_true rfl) (st_X8_take hO0 _ (by show 33 ≤ (40 : Int32).toInt ∧ (40 : Int32).toInt ≤ 124; omega) pre0 (by omega) (fun w26 h30 hr27 hO30 hv30 hp28 hp29 => ?_))
        have hu30 := hv30
        obtain ⟨b31, rfl, t32, t33⟩ := hr27
        show uRun _ (uCall Mt _) _ 88 (_, [(.inl (bi b31))], _, _, _)
        refine ur_eqB rfl (fun c34 => ?_) (fun c34 => ?_)
        · have t35 := t33 c34
          clear t32 t33
          refine ur_ldA rfl rfl ?_
          refine ur_push rfl ?_
          obtain ⟨f37, f38, f39, f40, hc36, k41⟩ := ok_5 hO30
          have t42 := fO_of (k := 1) hc36 rfl
          have t43 := fO_of (k := 2) hc36 rfl
          have t44 := fO_of (k := 3) hc36 rfl
          have t45 := fO_of (k := 5) hc36 rfl
          refine ur_inl rfl (rcv_of hc36) (Nat.le_of_ble_eq_true rfl) (Nat.le_of_ble_eq_true rfl) (st_X8_take hO30 _ (by show 33 ≤ (33 : Int32).toInt ∧ (33 : Int32).toInt ≤ 124; omega) (tC_un hO0 hO30 hu30 (by decide) (by decide) pre0) (by omega) (fun w46 h50 hr47 hO50 hv50 hp48 hp49 => ?_))
          have hu50 := hv50
          obtain ⟨b51, rfl, t52, t53⟩ := hr47
          show uRun _ (uCall Mt _) _ 120 (_, [(.inl (bi b51))], _, _, _)
          refine ur_eqB rfl (fun c54 => ?_) (fun c54 => ?_)
          · have t55 := t53 c54
            clear t52 t53
            refine ur_ldA rfl rfl ?_
            refine ur_push rfl ?_
            obtain ⟨f57, f58, f59, f60, hc56, k61⟩ := ok_5 hO50
            have t62 := fO_of (k := 1) hc56 rfl
            have t63 := fO_of (k := 2) hc56 rfl
            have t64 := fO_of (k := 3) hc56 rfl
            have t65 := fO_of (k := 5) hc56 rfl
            refine ur_inl rfl (rcv_of hc56) (Nat.le_of_ble_eq_true rfl) (Nat.le_of_ble_eq_true rfl) (st_X8_take hO50 _ (by show 33 ≤ (45 : Int32).toInt ∧ (45 : Int32).toInt ≤ 124; omega) (tC_un hO0 hO50 (hu30.tr hu50) (by decide) (by decide) pre0) (by omega) (fun w66 h70 hr67 hO70 hv70 hp68 hp69 => ?_))
            have hu70 := hv70
            obtain ⟨b71, rfl, t72, t73⟩ := hr67
            show uRun _ (uCall Mt _) _ 145 (_, [(.inl (bi b71))], _, _, _)
            refine ur_eqB rfl (fun c74 => ?_) (fun c74 => ?_)
            · have t75 := t73 c74
              clear t72 t73
              refine ur_ldA rfl rfl ?_
              obtain ⟨f77, f78, f79, f80, hc76, k81⟩ := ok_5 hO70
              have t82 := fO_of (k := 1) hc76 rfl
              have t83 := fO_of (k := 2) hc76 rfl
              have t84 := fO_of (k := 3) hc76 rfl
              have t85 := fO_of (k := 5) hc76 rfl
              refine ur_inl rfl (rcv_of hc76) (Nat.le_of_ble_eq_true rfl) (Nat.le_of_ble_eq_true rfl) (st_X8_failHere hO70  (fun w86 h90 hr87 hO90 hv90 hp88 hp89 => ?_))
              have hu90 := hv90
              subst hr87
              show uRun _ (uCall Mt _) _ 168 (_, [], _, _, _)
              obtain ⟨f92, f93, f94, f95, hc91, k96⟩ := ok_5 hO90
              have t97 := fO_of (k := 1) hc91 rfl
              have t98 := fO_of (k := 2) hc91 rfl
              have t99 := fO_of (k := 3) hc91 rfl
              have t100 := fO_of (k := 5) hc91 rfl
              have t101 : t (fO h30 5 2) = t (fO h0 5 2) := congrArg t (by omega)
              have t102 : t (fO h50 5 2) = t (fO h0 5 2) := congrArg t (by omega)
              exact ur_ret0 rfl (hQ _ _ rfl hO90 (hu30.tr (hu50.tr (hu70.tr hu90))) (by omega) (COt.no (by omega) (by rw [show t (fO h0 5 2) = x13.toInt by omega]; omega) (by omega) (by omega) (by omega)))
            · have t103 := t72 c74
              clear t72 t73
              refine ur_ldA rfl rfl ?_
              refine ur_ldI rfl rfl ?_
              refine ur_push rfl ?_
              refine ur_binV rfl (fun x104 e105 => ?_)
              have z106 := any_r a1
              have t107 := ti_add e105 (by omega) (by omega)
              obtain ⟨f109, f110, f111, f112, hc108, k113⟩ := ok_5 hO70
              have t114 := fO_of (k := 1) hc108 rfl
              have t115 := fO_of (k := 2) hc108 rfl
              have t116 := fO_of (k := 3) hc108 rfl
              have t117 := fO_of (k := 5) hc108 rfl
              refine ur_inl rfl (rcv_of hc108) (Nat.le_of_ble_eq_true rfl) (Nat.le_of_ble_eq_true rfl) (rec9 hO70 _ (by show 0 ≤ x104.toInt ∧ x104.toInt ≤ 6; omega) (by show 6 ≤ x104.toInt + (n : Int); omega) (tC_un hO0 hO70 (hu30.tr (hu50.tr hu70)) (by decide) (by decide) pre0) (by omega) (fun w118 h122 hr119 hO122 hv122 hp120 hp121 => ?_))
              have hu122 := hv122
              subst hr119
              show uRun _ (uCall Mt _) _ 155 (_, [], _, _, _)
              refine ur_ldA rfl rfl ?_
              refine ur_push rfl ?_
              refine ur_push rfl ?_
              obtain ⟨f124, f125, f126, f127, hc123, k128⟩ := ok_5 hO122
              have t129 := fO_of (k := 1) hc123 rfl
              have t130 := fO_of (k := 2) hc123 rfl
              have t131 := fO_of (k := 3) hc123 rfl
              have t132 := fO_of (k := 5) hc123 rfl
              refine ur_inl rfl (rcv_of hc123) (Nat.le_of_ble_eq_true rfl) (Nat.le_of_ble_eq_true rfl) (st_X8_add hO122 _ (by show 0 ≤ (3 : Int32).toInt ∧ (3 : Int32).toInt ≤ 15; omega) _ (by show 0 ≤ (0 : Int32).toInt ∧ (0 : Int32).toInt ≤ 999999; omega) (by omega) (fun w133 h137 hr134 hO137 hv137 hp135 hp136 => ?_))
              have hu137 := hv137
              subst hr134
              show uRun _ (uCall Mt _) _ 161 (_, [], _, _, _)
              refine ur_go rfl ?_
              obtain ⟨f139, f140, f141, f142, hc138, k143⟩ := ok_5 hO137
              have t144 := fO_of (k := 1) hc138 rfl
              have t145 := fO_of (k := 2) hc138 rfl
              have t146 := fO_of (k := 3) hc138 rfl
              have t147 := fO_of (k := 5) hc138 rfl
              have t148 : t (fO h50 5 2) = t (fO h0 5 2) := congrArg t (by omega)
              exact ur_ret0 rfl (hQ _ _ rfl hO137 (hu30.tr (hu50.tr (hu70.tr (hu122.tr hu137)))) (by omega) (COt.cast (COt.un (c := 45) (s := 4) (by omega) (by omega) (by omega) hp121 (by omega) (by omega) (hp69.trans (hp49.trans hp29)) hp136 (by decide)) (by omega) (by omega) rfl))
          · have t149 := t52 c54
            clear t52 t53
            refine ur_ldA rfl rfl ?_
            refine ur_ldI rfl rfl ?_
            refine ur_push rfl ?_
            refine ur_binV rfl (fun x150 e151 => ?_)
            have z152 := any_r a1
            have t153 := ti_add e151 (by omega) (by omega)
            obtain ⟨f155, f156, f157, f158, hc154, k159⟩ := ok_5 hO50
            have t160 := fO_of (k := 1) hc154 rfl
            have t161 := fO_of (k := 2) hc154 rfl
            have t162 := fO_of (k := 3) hc154 rfl
            have t163 := fO_of (k := 5) hc154 rfl
            refine ur_inl rfl (rcv_of hc154) (Nat.le_of_ble_eq_true rfl) (Nat.le_of_ble_eq_true rfl) (rec9 hO50 _ (by show 0 ≤ x150.toInt ∧ x150.toInt ≤ 6; omega) (by show 6 ≤ x150.toInt + (n : Int); omega) (tC_un hO0 hO50 (hu30.tr hu50) (by decide) (by decide) pre0) (by omega) (fun w164 h168 hr165 hO168 hv168 hp166 hp167 => ?_))
            have hu168 := hv168
            subst hr165
            show uRun _ (uCall Mt _) _ 130 (_, [], _, _, _)
            refine ur_ldA rfl rfl ?_
            refine ur_push rfl ?_
            refine ur_push rfl ?_
            obtain ⟨f170, f171, f172, f173, hc169, k174⟩ := ok_5 hO168
            have t175 := fO_of (k := 1) hc169 rfl
            have t176 := fO_of (k := 2) hc169 rfl
            have t177 := fO_of (k := 3) hc169 rfl
            have t178 := fO_of (k := 5) hc169 rfl
            refine ur_inl rfl (rcv_of hc169) (Nat.le_of_ble_eq_true rfl) (Nat.le_of_ble_eq_true rfl) (st_X8_add hO168 _ (by show 0 ≤ (2 : Int32).toInt ∧ (2 : Int32).toInt ≤ 15; omega) _ (by show 0 ≤ (0 : Int32).toInt ∧ (0 : Int32).toInt ≤ 999999; omega) (by omega) (fun w179 h183 hr180 hO183 hv183 hp181 hp182 => ?_))
            have hu183 := hv183
            subst hr180
            show uRun _ (uCall Mt _) _ 136 (_, [], _, _, _)
            refine ur_go rfl ?_
            obtain ⟨f185, f186, f187, f188, hc184, k189⟩ := ok_5 hO183
            have t190 := fO_of (k := 1) hc184 rfl
            have t191 := fO_of (k := 2) hc184 rfl
            have t192 := fO_of (k := 3) hc184 rfl
            have t193 := fO_of (k := 5) hc184 rfl
            have t194 : t (fO h30 5 2) = t (fO h0 5 2) := congrArg t (by omega)
            exact ur_ret0 rfl (hQ _ _ rfl hO183 (hu30.tr (hu50.tr (hu168.tr hu183))) (by omega) (COt.cast (COt.un (c := 33) (s := 3) (by omega) (by omega) (by omega) hp167 (by omega) (by omega) (hp49.trans hp29) hp182 (by decide)) (by omega) (by omega) rfl))
        · have t195 := t32 c34
          clear t32 t33
          refine ur_ldA rfl rfl ?_
          refine ur_ldI rfl rfl ?_
          refine ur_push rfl ?_
          refine ur_binV rfl (fun x196 e197 => ?_)
          have z198 := any_r a1
          have t199 := ti_add e197 (by omega) (by omega)
          obtain ⟨f201, f202, f203, f204, hc200, k205⟩ := ok_5 hO30
          have t206 := fO_of (k := 1) hc200 rfl
          have t207 := fO_of (k := 2) hc200 rfl
          have t208 := fO_of (k := 3) hc200 rfl
          have t209 := fO_of (k := 5) hc200 rfl
          refine ur_inl rfl (rcv_of hc200) (Nat.le_of_ble_eq_true rfl) (Nat.le_of_ble_eq_true rfl) (st_X8_readEither n rec hO30 _ (by show 0 ≤ x196.toInt ∧ x196.toInt ≤ 6; omega) (by show 6 ≤ x196.toInt + (n : Int); omega) (tC_un hO0 hO30 hu30 (by decide) (by decide) pre0) (by omega) (fun w210 h214 hr211 hO214 hv214 hp212 hp213 => ?_))
          have hu214 := hv214
          subst hr211
          show uRun _ (uCall Mt _) _ 98 (_, [], _, _, _)
          refine ur_ldA rfl rfl ?_
          refine ur_push rfl ?_
          obtain ⟨f216, f217, f218, f219, hc215, k220⟩ := ok_5 hO214
          have t221 := fO_of (k := 1) hc215 rfl
          have t222 := fO_of (k := 2) hc215 rfl
          have t223 := fO_of (k := 3) hc215 rfl
          have t224 := fO_of (k := 5) hc215 rfl
          refine ur_inl rfl (rcv_of hc215) (Nat.le_of_ble_eq_true rfl) (Nat.le_of_ble_eq_true rfl) (st_X8_isGoingOn hO214 _ (by show 33 ≤ (41 : Int32).toInt ∧ (41 : Int32).toInt ≤ 124; omega) (tC_un hO0 hO214 (hu30.tr hu214) (by decide) (by decide) pre0) (by omega) (fun w225 h229 hr226 hO229 hv229 hp227 hp228 => ?_))
          have hu229 := hv229
          obtain ⟨b230, rfl, t231, t232⟩ := hr226
          show uRun _ (uCall Mt _) _ 104 (_, [(.inl (bi b230))], _, _, _)
          refine ur_neB rfl (fun c233 => ?_) (fun c233 => ?_)
          · have t234 := t231 c233
            clear t231 t232
            obtain ⟨f236, f237, f238, f239, hc235, k240⟩ := ok_5 hO229
            have t241 := fO_of (k := 1) hc235 rfl
            have t242 := fO_of (k := 2) hc235 rfl
            have t243 := fO_of (k := 3) hc235 rfl
            have t244 := fO_of (k := 5) hc235 rfl
            exact ur_ret0 rfl (hQ _ _ rfl hO229 (hu30.tr (hu214.tr hu229)) (by omega) (COt.par (by omega) (by omega) hp213 (by omega) (by omega) hp29 (by omega) (by omega) hp228))
          · have t245 := t232 c233
            clear t231 t232
            refine ur_ldA rfl rfl ?_
            obtain ⟨f247, f248, f249, f250, hc246, k251⟩ := ok_5 hO229
            have t252 := fO_of (k := 1) hc246 rfl
            have t253 := fO_of (k := 2) hc246 rfl
            have t254 := fO_of (k := 3) hc246 rfl
            have t255 := fO_of (k := 5) hc246 rfl
            refine ur_inl rfl (rcv_of hc246) (Nat.le_of_ble_eq_true rfl) (Nat.le_of_ble_eq_true rfl) (st_X8_failHere hO229  (fun w256 h260 hr257 hO260 hv260 hp258 hp259 => ?_))
            have hu260 := hv260
            subst hr257
            show uRun _ (uCall Mt _) _ 111 (_, [], _, _, _)
            refine ur_go rfl ?_
            obtain ⟨f262, f263, f264, f265, hc261, k266⟩ := ok_5 hO260
            have t267 := fO_of (k := 1) hc261 rfl
            have t268 := fO_of (k := 2) hc261 rfl
            have t269 := fO_of (k := 3) hc261 rfl
            have t270 := fO_of (k := 5) hc261 rfl
            exact ur_ret0 rfl (hQ _ _ rfl hO260 (hu30.tr (hu214.tr (hu229.tr hu260))) (by omega) (COt.par (by omega) (by omega) hp213 (by omega) (by omega) hp29 (by omega) (by omega) (hp259.trans hp228)))
      · have t271 := lt_no c24
        refine ur_ldA rfl rfl ?_
        refine ur_inl rfl (rcv_of hc1) (Nat.le_of_ble_eq_true rfl) (Nat.le_of_ble_eq_true rfl) (st_X8_failHere hO0  (fun w272 h276 hr273 hO276 hv276 hp274 hp275 => ?_))
        have hu276 := hv276
        subst hr273
        show uRun _ (uCall Mt _) _ 79 (_, [], _, _, _)
        refine ur_go rfl ?_
        obtain ⟨f278, f279, f280, f281, hc277, k282⟩ := ok_5 hO276
        have t283 := fO_of (k := 1) hc277 rfl
        have t284 := fO_of (k := 2) hc277 rfl
        have t285 := fO_of (k := 3) hc277 rfl
        have t286 := fO_of (k := 5) hc277 rfl
        exact ur_ret0 rfl (hQ _ _ rfl hO276 hu276 (by omega) (COt.no (by omega) (by rw [show t (fO h0 5 2) = x13.toInt by omega]; omega) (by omega) (by omega) (by omega)))
    · have t287 := wi_toL c21 l_97 l_122
      refine ur_idxV rfl rfl (by omega) (Nat.le_of_ble_eq_true rfl) (fun x288 t289 e290 => ?_)
      have t291 := ix_nm e290 (by omega)
      refine ur_if1 rfl (fun c292 => ?_) (fun c292 => ?_)
      · have t293 := lt_to c292
        refine ur_ldI rfl rfl ?_
        refine ur_push rfl ?_
        refine ur_if2 rfl (fun c294 => ?_) (fun c294 => ?_)
        · have t295 := lt_to c294
          refine ur_ldA rfl rfl ?_
          refine ur_push rfl ?_
          refine ur_inl rfl (rcv_of hc1) (Nat.le_of_ble_eq_true rfl) (Nat.le_of_ble_eq_true rfl) (st_X8_take hO0 _ (by show 33 ≤ (40 : Int32).toInt ∧ (40 : Int32).toInt ≤ 124; omega) pre0 (by omega) (fun w296 h300 hr297 hO300 hv300 hp298 hp299 => ?_))
          have hu300 := hv300
          obtain ⟨b301, rfl, t302, t303⟩ := hr297
          show uRun _ (uCall Mt _) _ 88 (_, [(.inl (bi b301))], _, _, _)
          refine ur_eqB rfl (fun c304 => ?_) (fun c304 => ?_)
          · have t305 := t303 c304
            clear t302 t303
            refine ur_ldA rfl rfl ?_
            refine ur_push rfl ?_
            obtain ⟨f307, f308, f309, f310, hc306, k311⟩ := ok_5 hO300
            have t312 := fO_of (k := 1) hc306 rfl
            have t313 := fO_of (k := 2) hc306 rfl
            have t314 := fO_of (k := 3) hc306 rfl
            have t315 := fO_of (k := 5) hc306 rfl
            refine ur_inl rfl (rcv_of hc306) (Nat.le_of_ble_eq_true rfl) (Nat.le_of_ble_eq_true rfl) (st_X8_take hO300 _ (by show 33 ≤ (33 : Int32).toInt ∧ (33 : Int32).toInt ≤ 124; omega) (tC_un hO0 hO300 hu300 (by decide) (by decide) pre0) (by omega) (fun w316 h320 hr317 hO320 hv320 hp318 hp319 => ?_))
            have hu320 := hv320
            obtain ⟨b321, rfl, t322, t323⟩ := hr317
            show uRun _ (uCall Mt _) _ 120 (_, [(.inl (bi b321))], _, _, _)
            refine ur_eqB rfl (fun c324 => ?_) (fun c324 => ?_)
            · have t325 := t323 c324
              clear t322 t323
              refine ur_ldA rfl rfl ?_
              refine ur_push rfl ?_
              obtain ⟨f327, f328, f329, f330, hc326, k331⟩ := ok_5 hO320
              have t332 := fO_of (k := 1) hc326 rfl
              have t333 := fO_of (k := 2) hc326 rfl
              have t334 := fO_of (k := 3) hc326 rfl
              have t335 := fO_of (k := 5) hc326 rfl
              refine ur_inl rfl (rcv_of hc326) (Nat.le_of_ble_eq_true rfl) (Nat.le_of_ble_eq_true rfl) (st_X8_take hO320 _ (by show 33 ≤ (45 : Int32).toInt ∧ (45 : Int32).toInt ≤ 124; omega) (tC_un hO0 hO320 (hu300.tr hu320) (by decide) (by decide) pre0) (by omega) (fun w336 h340 hr337 hO340 hv340 hp338 hp339 => ?_))
              have hu340 := hv340
              obtain ⟨b341, rfl, t342, t343⟩ := hr337
              show uRun _ (uCall Mt _) _ 145 (_, [(.inl (bi b341))], _, _, _)
              refine ur_eqB rfl (fun c344 => ?_) (fun c344 => ?_)
              · have t345 := t343 c344
                clear t342 t343
                refine ur_ldA rfl rfl ?_
                obtain ⟨f347, f348, f349, f350, hc346, k351⟩ := ok_5 hO340
                have t352 := fO_of (k := 1) hc346 rfl
                have t353 := fO_of (k := 2) hc346 rfl
                have t354 := fO_of (k := 3) hc346 rfl
                have t355 := fO_of (k := 5) hc346 rfl
                refine ur_inl rfl (rcv_of hc346) (Nat.le_of_ble_eq_true rfl) (Nat.le_of_ble_eq_true rfl) (st_X8_failHere hO340  (fun w356 h360 hr357 hO360 hv360 hp358 hp359 => ?_))
                have hu360 := hv360
                subst hr357
                show uRun _ (uCall Mt _) _ 168 (_, [], _, _, _)
                obtain ⟨f362, f363, f364, f365, hc361, k366⟩ := ok_5 hO360
                have t367 := fO_of (k := 1) hc361 rfl
                have t368 := fO_of (k := 2) hc361 rfl
                have t369 := fO_of (k := 3) hc361 rfl
                have t370 := fO_of (k := 5) hc361 rfl
                have t371 : t (fO h300 5 2) = t (fO h0 5 2) := congrArg t (by omega)
                have t372 : t (fO h320 5 2) = t (fO h0 5 2) := congrArg t (by omega)
                exact ur_ret0 rfl (hQ _ _ rfl hO360 (hu300.tr (hu320.tr (hu340.tr hu360))) (by omega) (COt.no (by omega) (by rw [show t (fO h0 5 2) = x13.toInt by omega]; omega) (by omega) (by omega) (by omega)))
              · have t373 := t342 c344
                clear t342 t343
                refine ur_ldA rfl rfl ?_
                refine ur_ldI rfl rfl ?_
                refine ur_push rfl ?_
                refine ur_binV rfl (fun x374 e375 => ?_)
                have z376 := any_r a1
                have t377 := ti_add e375 (by omega) (by omega)
                obtain ⟨f379, f380, f381, f382, hc378, k383⟩ := ok_5 hO340
                have t384 := fO_of (k := 1) hc378 rfl
                have t385 := fO_of (k := 2) hc378 rfl
                have t386 := fO_of (k := 3) hc378 rfl
                have t387 := fO_of (k := 5) hc378 rfl
                refine ur_inl rfl (rcv_of hc378) (Nat.le_of_ble_eq_true rfl) (Nat.le_of_ble_eq_true rfl) (rec9 hO340 _ (by show 0 ≤ x374.toInt ∧ x374.toInt ≤ 6; omega) (by show 6 ≤ x374.toInt + (n : Int); omega) (tC_un hO0 hO340 (hu300.tr (hu320.tr hu340)) (by decide) (by decide) pre0) (by omega) (fun w388 h392 hr389 hO392 hv392 hp390 hp391 => ?_))
                have hu392 := hv392
                subst hr389
                show uRun _ (uCall Mt _) _ 155 (_, [], _, _, _)
                refine ur_ldA rfl rfl ?_
                refine ur_push rfl ?_
                refine ur_push rfl ?_
                obtain ⟨f394, f395, f396, f397, hc393, k398⟩ := ok_5 hO392
                have t399 := fO_of (k := 1) hc393 rfl
                have t400 := fO_of (k := 2) hc393 rfl
                have t401 := fO_of (k := 3) hc393 rfl
                have t402 := fO_of (k := 5) hc393 rfl
                refine ur_inl rfl (rcv_of hc393) (Nat.le_of_ble_eq_true rfl) (Nat.le_of_ble_eq_true rfl) (st_X8_add hO392 _ (by show 0 ≤ (3 : Int32).toInt ∧ (3 : Int32).toInt ≤ 15; omega) _ (by show 0 ≤ (0 : Int32).toInt ∧ (0 : Int32).toInt ≤ 999999; omega) (by omega) (fun w403 h407 hr404 hO407 hv407 hp405 hp406 => ?_))
                have hu407 := hv407
                subst hr404
                show uRun _ (uCall Mt _) _ 161 (_, [], _, _, _)
                refine ur_go rfl ?_
                obtain ⟨f409, f410, f411, f412, hc408, k413⟩ := ok_5 hO407
                have t414 := fO_of (k := 1) hc408 rfl
                have t415 := fO_of (k := 2) hc408 rfl
                have t416 := fO_of (k := 3) hc408 rfl
                have t417 := fO_of (k := 5) hc408 rfl
                have t418 : t (fO h320 5 2) = t (fO h0 5 2) := congrArg t (by omega)
                exact ur_ret0 rfl (hQ _ _ rfl hO407 (hu300.tr (hu320.tr (hu340.tr (hu392.tr hu407)))) (by omega) (COt.cast (COt.un (c := 45) (s := 4) (by omega) (by omega) (by omega) hp391 (by omega) (by omega) (hp339.trans (hp319.trans hp299)) hp406 (by decide)) (by omega) (by omega) rfl))
            · have t419 := t322 c324
              clear t322 t323
              refine ur_ldA rfl rfl ?_
              refine ur_ldI rfl rfl ?_
              refine ur_push rfl ?_
              refine ur_binV rfl (fun x420 e421 => ?_)
              have z422 := any_r a1
              have t423 := ti_add e421 (by omega) (by omega)
              obtain ⟨f425, f426, f427, f428, hc424, k429⟩ := ok_5 hO320
              have t430 := fO_of (k := 1) hc424 rfl
              have t431 := fO_of (k := 2) hc424 rfl
              have t432 := fO_of (k := 3) hc424 rfl
              have t433 := fO_of (k := 5) hc424 rfl
              refine ur_inl rfl (rcv_of hc424) (Nat.le_of_ble_eq_true rfl) (Nat.le_of_ble_eq_true rfl) (rec9 hO320 _ (by show 0 ≤ x420.toInt ∧ x420.toInt ≤ 6; omega) (by show 6 ≤ x420.toInt + (n : Int); omega) (tC_un hO0 hO320 (hu300.tr hu320) (by decide) (by decide) pre0) (by omega) (fun w434 h438 hr435 hO438 hv438 hp436 hp437 => ?_))
              have hu438 := hv438
              subst hr435
              show uRun _ (uCall Mt _) _ 130 (_, [], _, _, _)
              refine ur_ldA rfl rfl ?_
              refine ur_push rfl ?_
              refine ur_push rfl ?_
              obtain ⟨f440, f441, f442, f443, hc439, k444⟩ := ok_5 hO438
              have t445 := fO_of (k := 1) hc439 rfl
              have t446 := fO_of (k := 2) hc439 rfl
              have t447 := fO_of (k := 3) hc439 rfl
              have t448 := fO_of (k := 5) hc439 rfl
              refine ur_inl rfl (rcv_of hc439) (Nat.le_of_ble_eq_true rfl) (Nat.le_of_ble_eq_true rfl) (st_X8_add hO438 _ (by show 0 ≤ (2 : Int32).toInt ∧ (2 : Int32).toInt ≤ 15; omega) _ (by show 0 ≤ (0 : Int32).toInt ∧ (0 : Int32).toInt ≤ 999999; omega) (by omega) (fun w449 h453 hr450 hO453 hv453 hp451 hp452 => ?_))
              have hu453 := hv453
              subst hr450
              show uRun _ (uCall Mt _) _ 136 (_, [], _, _, _)
              refine ur_go rfl ?_
              obtain ⟨f455, f456, f457, f458, hc454, k459⟩ := ok_5 hO453
              have t460 := fO_of (k := 1) hc454 rfl
              have t461 := fO_of (k := 2) hc454 rfl
              have t462 := fO_of (k := 3) hc454 rfl
              have t463 := fO_of (k := 5) hc454 rfl
              have t464 : t (fO h300 5 2) = t (fO h0 5 2) := congrArg t (by omega)
              exact ur_ret0 rfl (hQ _ _ rfl hO453 (hu300.tr (hu320.tr (hu438.tr hu453))) (by omega) (COt.cast (COt.un (c := 33) (s := 3) (by omega) (by omega) (by omega) hp437 (by omega) (by omega) (hp319.trans hp299) hp452 (by decide)) (by omega) (by omega) rfl))
          · have t465 := t302 c304
            clear t302 t303
            refine ur_ldA rfl rfl ?_
            refine ur_ldI rfl rfl ?_
            refine ur_push rfl ?_
            refine ur_binV rfl (fun x466 e467 => ?_)
            have z468 := any_r a1
            have t469 := ti_add e467 (by omega) (by omega)
            obtain ⟨f471, f472, f473, f474, hc470, k475⟩ := ok_5 hO300
            have t476 := fO_of (k := 1) hc470 rfl
            have t477 := fO_of (k := 2) hc470 rfl
            have t478 := fO_of (k := 3) hc470 rfl
            have t479 := fO_of (k := 5) hc470 rfl
            refine ur_inl rfl (rcv_of hc470) (Nat.le_of_ble_eq_true rfl) (Nat.le_of_ble_eq_true rfl) (st_X8_readEither n rec hO300 _ (by show 0 ≤ x466.toInt ∧ x466.toInt ≤ 6; omega) (by show 6 ≤ x466.toInt + (n : Int); omega) (tC_un hO0 hO300 hu300 (by decide) (by decide) pre0) (by omega) (fun w480 h484 hr481 hO484 hv484 hp482 hp483 => ?_))
            have hu484 := hv484
            subst hr481
            show uRun _ (uCall Mt _) _ 98 (_, [], _, _, _)
            refine ur_ldA rfl rfl ?_
            refine ur_push rfl ?_
            obtain ⟨f486, f487, f488, f489, hc485, k490⟩ := ok_5 hO484
            have t491 := fO_of (k := 1) hc485 rfl
            have t492 := fO_of (k := 2) hc485 rfl
            have t493 := fO_of (k := 3) hc485 rfl
            have t494 := fO_of (k := 5) hc485 rfl
            refine ur_inl rfl (rcv_of hc485) (Nat.le_of_ble_eq_true rfl) (Nat.le_of_ble_eq_true rfl) (st_X8_isGoingOn hO484 _ (by show 33 ≤ (41 : Int32).toInt ∧ (41 : Int32).toInt ≤ 124; omega) (tC_un hO0 hO484 (hu300.tr hu484) (by decide) (by decide) pre0) (by omega) (fun w495 h499 hr496 hO499 hv499 hp497 hp498 => ?_))
            have hu499 := hv499
            obtain ⟨b500, rfl, t501, t502⟩ := hr496
            show uRun _ (uCall Mt _) _ 104 (_, [(.inl (bi b500))], _, _, _)
            refine ur_neB rfl (fun c503 => ?_) (fun c503 => ?_)
            · have t504 := t501 c503
              clear t501 t502
              obtain ⟨f506, f507, f508, f509, hc505, k510⟩ := ok_5 hO499
              have t511 := fO_of (k := 1) hc505 rfl
              have t512 := fO_of (k := 2) hc505 rfl
              have t513 := fO_of (k := 3) hc505 rfl
              have t514 := fO_of (k := 5) hc505 rfl
              exact ur_ret0 rfl (hQ _ _ rfl hO499 (hu300.tr (hu484.tr hu499)) (by omega) (COt.par (by omega) (by omega) hp483 (by omega) (by omega) hp299 (by omega) (by omega) hp498))
            · have t515 := t502 c503
              clear t501 t502
              refine ur_ldA rfl rfl ?_
              obtain ⟨f517, f518, f519, f520, hc516, k521⟩ := ok_5 hO499
              have t522 := fO_of (k := 1) hc516 rfl
              have t523 := fO_of (k := 2) hc516 rfl
              have t524 := fO_of (k := 3) hc516 rfl
              have t525 := fO_of (k := 5) hc516 rfl
              refine ur_inl rfl (rcv_of hc516) (Nat.le_of_ble_eq_true rfl) (Nat.le_of_ble_eq_true rfl) (st_X8_failHere hO499  (fun w526 h530 hr527 hO530 hv530 hp528 hp529 => ?_))
              have hu530 := hv530
              subst hr527
              show uRun _ (uCall Mt _) _ 111 (_, [], _, _, _)
              refine ur_go rfl ?_
              obtain ⟨f532, f533, f534, f535, hc531, k536⟩ := ok_5 hO530
              have t537 := fO_of (k := 1) hc531 rfl
              have t538 := fO_of (k := 2) hc531 rfl
              have t539 := fO_of (k := 3) hc531 rfl
              have t540 := fO_of (k := 5) hc531 rfl
              exact ur_ret0 rfl (hQ _ _ rfl hO530 (hu300.tr (hu484.tr (hu499.tr hu530))) (by omega) (COt.par (by omega) (by omega) hp483 (by omega) (by omega) hp299 (by omega) (by omega) (hp529.trans hp498)))
        · have t541 := lt_no c294
          refine ur_ldA rfl rfl ?_
          refine ur_inl rfl (rcv_of hc1) (Nat.le_of_ble_eq_true rfl) (Nat.le_of_ble_eq_true rfl) (st_X8_failHere hO0  (fun w542 h546 hr543 hO546 hv546 hp544 hp545 => ?_))
          have hu546 := hv546
          subst hr543
          show uRun _ (uCall Mt _) _ 79 (_, [], _, _, _)
          refine ur_go rfl ?_
          obtain ⟨f548, f549, f550, f551, hc547, k552⟩ := ok_5 hO546
          have t553 := fO_of (k := 1) hc547 rfl
          have t554 := fO_of (k := 2) hc547 rfl
          have t555 := fO_of (k := 3) hc547 rfl
          have t556 := fO_of (k := 5) hc547 rfl
          exact ur_ret0 rfl (hQ _ _ rfl hO546 hu546 (by omega) (COt.no (by omega) (by rw [show t (fO h0 5 2) = x13.toInt by omega]; omega) (by omega) (by omega) (by omega)))
      · have t557 := lt_no c292
        refine ur_ldA rfl rfl ?_
        refine ur_push rfl ?_
        refine ur_idxV rfl rfl (by omega) (Nat.le_of_ble_eq_true rfl) (fun x558 t559 e560 => ?_)
        have t561 : x558.toInt = x288.toInt := congrArg Int32.toInt (e560.symm.trans e290)
        refine ur_inl rfl (rcv_of hc1) (Nat.le_of_ble_eq_true rfl) (Nat.le_of_ble_eq_true rfl) (st_X8_add hO0 _ (by show 0 ≤ (1 : Int32).toInt ∧ (1 : Int32).toInt ≤ 15; omega) _ (by show 0 ≤ x558.toInt ∧ x558.toInt ≤ 999999; omega) (by omega) (fun w562 h566 hr563 hO566 hv566 hp564 hp565 => ?_))
        have hu566 := hv566
        subst hr563
        show uRun _ (uCall Mt _) _ 56 (_, [], _, _, _)
        refine ur_ldA rfl rfl ?_
        refine ur_dup rfl rfl ?_
        obtain ⟨f568, f569, f570, f571, hc567, k572⟩ := ok_5 hO566
        refine ur_get rfl hc567 rfl ?_
        have t573 := fO_of (k := 1) hc567 rfl
        have t574 := fO_of (k := 2) hc567 rfl
        have t575 := fO_of (k := 3) hc567 rfl
        have t576 := fO_of (k := 5) hc567 rfl
        refine ur_push rfl ?_
        refine ur_binV rfl (fun x577 e578 => ?_)
        have z579 := any_r f569
        have t580 := ti_add e578 (by omega) (by omega)
        refine ur_putV (W := []) (fs' := [(.inr (.inr (some 6))), (.inl f568), (.inl x577), (.inl f570), (.inr (.inr (some 7))), (.inl f571)]) rfl hO566 hc567 (Nat.le_of_ble_eq_true rfl) rfl rfl ⟨rfl, _, _, _, _, rfl, by omega⟩ rfl (Or.inl rfl) (fun h582 hO582 hu582 d581 hc583 => ?_)
        refine ur_go rfl ?_
        have t584 := fO_of (k := 1) hc583 rfl
        have t585 := fO_of (k := 2) hc583 rfl
        have t586 := fO_of (k := 3) hc583 rfl
        have t587 := fO_of (k := 5) hc583 rfl
        exact ur_ret0 rfl (hQ _ _ rfl hO582 (hu566.tr hu582) (by omega) (COt.name (j := x558.toInt) (by omega) (by rw [show t (fO h0 5 2) = x13.toInt by omega]; omega) (by omega) (by omega) ((tkC_put d581 (by omega)).trans (tkC_16 (w := 1) hp565 (by decide))) (by omega)))
  · have t588 := wi_toL c17 l_48 l_57
    refine ur_ldA rfl rfl ?_
    refine ur_inl rfl (rcv_of hc1) (Nat.le_of_ble_eq_true rfl) (Nat.le_of_ble_eq_true rfl) (st_X8_readNumber hO0 pre0 (by omega) (by omega) (fun w589 h593 hr590 hO593 hv593 hp591 hp592 => ?_))
    have hu593 := hv593
    subst hr590
    show uRun _ (uCall Mt _) _ 20 (_, [], _, _, _)
    refine ur_go rfl ?_
    obtain ⟨f595, f596, f597, f598, hc594, k599⟩ := ok_5 hO593
    have t600 := fO_of (k := 1) hc594 rfl
    have t601 := fO_of (k := 2) hc594 rfl
    have t602 := fO_of (k := 3) hc594 rfl
    have t603 := fO_of (k := 5) hc594 rfl
    exact ur_ret0 rfl (hQ _ _ rfl hO593 hu593 (by omega) (COt.nm hp592 (by omega) (by omega) (by omega) (by omega)))

set_option maxRecDepth 20000 in
set_option maxHeartbeats 4000000 in
theorem st_X8_op_0 {d kc ks : Nat} {h0 : aH} {Q : Option aV → aH → Prop} {t : Int → Int} (hO0 : OK h0) (a1 : Int32) (b1 : 6 ≤ a1.toInt ∧ a1.toInt ≤ 6) (pre0 : tC h0 = t) (pre1 : 0 ≤ fO h0 5 2 ∧ fO h0 5 2 ≤ fO h0 5 1 ∧ fO h0 5 1 ≤ 120 ∧ fO h0 5 3 = -1 ∧ 0 ≤ fO h0 5 5 ∧ fO h0 5 5 ≤ fO h0 5 2) (hQ : ∀ r h', (r = none) → OK h' → un [] h0 h' → (0 ≤ fO h' 5 5 ∧ fO h' 5 5 - fO h' 5 2 ≤ fO h0 5 5 - fO h0 5 2 ∧ fO h0 5 2 ≤ fO h' 5 2 ∧ fO h' 5 2 ≤ fO h' 5 1 ∧ fO h' 5 1 = fO h0 5 1 ∧ fO h' 5 3 ≤ fO h' 5 1) → (COt t 0 a1.toInt (fO h0 5 2) (tkC h0) (fO h' 5 3) (fO h' 5 2) (tkC h')) → Q r h') : uCall Mt (d + 4) 106 [(.inr (.inr (some 5))), (.inl a1)] h0 kc ks Q := by
  have l_0 : ((0) : Int32).toInt = 0 := by decide
  have l_1 : ((1) : Int32).toInt = 1 := by decide
  have l_6 : ((6) : Int32).toInt = 6 := by decide
  have l_48 : ((48) : Int32).toInt = 48 := by decide
  have l_57 : ((57) : Int32).toInt = 57 := by decide
  have l_97 : ((97) : Int32).toInt = 97 := by decide
  have l_122 : ((122) : Int32).toInt = 122 := by decide
  refine uc_ink [some (.inr (.inr (some 5))), some (.inl a1), none] mt_106 (Nat.le_of_ble_eq_true rfl) rfl ?_
  obtain ⟨f2, f3, f4, f5, hc1, k6⟩ := ok_5 hO0
  have t7 := fO_of (k := 1) hc1 rfl
  have t8 := fO_of (k := 2) hc1 rfl
  have t9 := fO_of (k := 3) hc1 rfl
  have t10 := fO_of (k := 5) hc1 rfl
  refine ur_ldA rfl rfl ?_
  refine ur_inl rfl (rcv_of hc1) (Nat.le_of_ble_eq_true rfl) (Nat.le_of_ble_eq_true rfl) (st_X8_here hO0 pre0 (fun w11 hr12 => ?_))
  obtain ⟨x13, rfl, t14⟩ := hr12
  show uRun _ (uCall Mt _) _ 4 (_, [(.inl x13)], _, _, _)
  refine ur_svIk [some (.inr (.inr (some 5))), some (.inl a1), some (.inl x13)] rfl rfl ?_
  refine ur_ldI rfl rfl ?_
  refine ur_push rfl ?_
  refine ur_push rfl ?_
  refine ur_callv rfl rfl (Nat.le_of_ble_eq_true rfl) (Nat.le_of_ble_eq_true rfl) rfl (sp_within _ _ _ _ _) ?_
  refine ur_eqB rfl (fun c17 => ?_) (fun c17 => ?_)
  · have t18 := wi_noL c17 l_48 l_57
    refine ur_ldI rfl rfl ?_
    refine ur_push rfl ?_
    refine ur_push rfl ?_
    refine ur_callv rfl rfl (Nat.le_of_ble_eq_true rfl) (Nat.le_of_ble_eq_true rfl) rfl (sp_within _ _ _ _ _) ?_
    refine ur_eqB rfl (fun c21 => ?_) (fun c21 => ?_)
    · have t22 := wi_noL c21 l_97 l_122
      have t23 := nmc_lo (c := x13.toInt) (by omega)
      refine ur_ldI rfl rfl ?_
      refine ur_push rfl ?_
      refine ur_if2 rfl (fun c24 => ?_) (fun c24 => ?_)
      · have t25 := lt_to c24
        exfalso
        omega
      · have t26 := lt_no c24
        refine ur_ldA rfl rfl ?_
        refine ur_inl rfl (rcv_of hc1) (Nat.le_of_ble_eq_true rfl) (Nat.le_of_ble_eq_true rfl) (st_X8_failHere hO0  (fun w27 h31 hr28 hO31 hv31 hp29 hp30 => ?_))
        have hu31 := hv31
        subst hr28
        show uRun _ (uCall Mt _) _ 79 (_, [], _, _, _)
        refine ur_go rfl ?_
        obtain ⟨f33, f34, f35, f36, hc32, k37⟩ := ok_5 hO31
        have t38 := fO_of (k := 1) hc32 rfl
        have t39 := fO_of (k := 2) hc32 rfl
        have t40 := fO_of (k := 3) hc32 rfl
        have t41 := fO_of (k := 5) hc32 rfl
        exact ur_ret0 rfl (hQ _ _ rfl hO31 hu31 (by omega) (COt.no (by omega) (by rw [show t (fO h0 5 2) = x13.toInt by omega]; omega) (by omega) (by omega) (by omega)))
    · have t42 := wi_toL c21 l_97 l_122
      refine ur_idxV rfl rfl (by omega) (Nat.le_of_ble_eq_true rfl) (fun x43 t44 e45 => ?_)
      have t46 := ix_nm e45 (by omega)
      refine ur_if1 rfl (fun c47 => ?_) (fun c47 => ?_)
      · have t48 := lt_to c47
        refine ur_ldI rfl rfl ?_
        refine ur_push rfl ?_
        refine ur_if2 rfl (fun c49 => ?_) (fun c49 => ?_)
        · have t50 := lt_to c49
          exfalso
          omega
        · have t51 := lt_no c49
          refine ur_ldA rfl rfl ?_
          refine ur_inl rfl (rcv_of hc1) (Nat.le_of_ble_eq_true rfl) (Nat.le_of_ble_eq_true rfl) (st_X8_failHere hO0  (fun w52 h56 hr53 hO56 hv56 hp54 hp55 => ?_))
          have hu56 := hv56
          subst hr53
          show uRun _ (uCall Mt _) _ 79 (_, [], _, _, _)
          refine ur_go rfl ?_
          obtain ⟨f58, f59, f60, f61, hc57, k62⟩ := ok_5 hO56
          have t63 := fO_of (k := 1) hc57 rfl
          have t64 := fO_of (k := 2) hc57 rfl
          have t65 := fO_of (k := 3) hc57 rfl
          have t66 := fO_of (k := 5) hc57 rfl
          exact ur_ret0 rfl (hQ _ _ rfl hO56 hu56 (by omega) (COt.no (by omega) (by rw [show t (fO h0 5 2) = x13.toInt by omega]; omega) (by omega) (by omega) (by omega)))
      · have t67 := lt_no c47
        refine ur_ldA rfl rfl ?_
        refine ur_push rfl ?_
        refine ur_idxV rfl rfl (by omega) (Nat.le_of_ble_eq_true rfl) (fun x68 t69 e70 => ?_)
        have t71 : x68.toInt = x43.toInt := congrArg Int32.toInt (e70.symm.trans e45)
        refine ur_inl rfl (rcv_of hc1) (Nat.le_of_ble_eq_true rfl) (Nat.le_of_ble_eq_true rfl) (st_X8_add hO0 _ (by show 0 ≤ (1 : Int32).toInt ∧ (1 : Int32).toInt ≤ 15; omega) _ (by show 0 ≤ x68.toInt ∧ x68.toInt ≤ 999999; omega) (by omega) (fun w72 h76 hr73 hO76 hv76 hp74 hp75 => ?_))
        have hu76 := hv76
        subst hr73
        show uRun _ (uCall Mt _) _ 56 (_, [], _, _, _)
        refine ur_ldA rfl rfl ?_
        refine ur_dup rfl rfl ?_
        obtain ⟨f78, f79, f80, f81, hc77, k82⟩ := ok_5 hO76
        refine ur_get rfl hc77 rfl ?_
        have t83 := fO_of (k := 1) hc77 rfl
        have t84 := fO_of (k := 2) hc77 rfl
        have t85 := fO_of (k := 3) hc77 rfl
        have t86 := fO_of (k := 5) hc77 rfl
        refine ur_push rfl ?_
        refine ur_binV rfl (fun x87 e88 => ?_)
        have z89 := any_r f79
        have t90 := ti_add e88 (by omega) (by omega)
        refine ur_putV (W := []) (fs' := [(.inr (.inr (some 6))), (.inl f78), (.inl x87), (.inl f80), (.inr (.inr (some 7))), (.inl f81)]) rfl hO76 hc77 (Nat.le_of_ble_eq_true rfl) rfl rfl ⟨rfl, _, _, _, _, rfl, by omega⟩ rfl (Or.inl rfl) (fun h92 hO92 hu92 d91 hc93 => ?_)
        refine ur_go rfl ?_
        have t94 := fO_of (k := 1) hc93 rfl
        have t95 := fO_of (k := 2) hc93 rfl
        have t96 := fO_of (k := 3) hc93 rfl
        have t97 := fO_of (k := 5) hc93 rfl
        exact ur_ret0 rfl (hQ _ _ rfl hO92 (hu76.tr hu92) (by omega) (COt.name (j := x68.toInt) (by omega) (by rw [show t (fO h0 5 2) = x13.toInt by omega]; omega) (by omega) (by omega) ((tkC_put d91 (by omega)).trans (tkC_16 (w := 1) hp75 (by decide))) (by omega)))
  · have t98 := wi_toL c17 l_48 l_57
    refine ur_ldA rfl rfl ?_
    refine ur_inl rfl (rcv_of hc1) (Nat.le_of_ble_eq_true rfl) (Nat.le_of_ble_eq_true rfl) (st_X8_readNumber hO0 pre0 (by omega) (by omega) (fun w99 h103 hr100 hO103 hv103 hp101 hp102 => ?_))
    have hu103 := hv103
    subst hr100
    show uRun _ (uCall Mt _) _ 20 (_, [], _, _, _)
    refine ur_go rfl ?_
    obtain ⟨f105, f106, f107, f108, hc104, k109⟩ := ok_5 hO103
    have t110 := fO_of (k := 1) hc104 rfl
    have t111 := fO_of (k := 2) hc104 rfl
    have t112 := fO_of (k := 3) hc104 rfl
    have t113 := fO_of (k := 5) hc104 rfl
    exact ur_ret0 rfl (hQ _ _ rfl hO103 hu103 (by omega) (COt.nm hp102 (by omega) (by omega) (by omega) (by omega)))

theorem st_X8_op {t : Int → Int} (n : Nat) : ∀ {d kc ks : Nat} {h0 : aH} {Q : Option aV → aH → Prop}, OK h0 → ∀ (a1 : Int32), (0 ≤ a1.toInt ∧ a1.toInt ≤ 6) → (6 ≤ a1.toInt + (n : Int)) → (tC h0 = t) → (0 ≤ fO h0 5 2 ∧ fO h0 5 2 ≤ fO h0 5 1 ∧ fO h0 5 1 ≤ 120 ∧ fO h0 5 3 = -1 ∧ 0 ≤ fO h0 5 5 ∧ fO h0 5 5 ≤ fO h0 5 2) → (∀ r h', (r = none) → OK h' → un [] h0 h' → (0 ≤ fO h' 5 5 ∧ fO h' 5 5 - fO h' 5 2 ≤ fO h0 5 5 - fO h0 5 2 ∧ fO h0 5 2 ≤ fO h' 5 2 ∧ fO h' 5 2 ≤ fO h' 5 1 ∧ fO h' 5 1 = fO h0 5 1 ∧ fO h' 5 3 ≤ fO h' 5 1) → (COt t 0 a1.toInt (fO h0 5 2) (tkC h0) (fO h' 5 3) (fO h' 5 2) (tkC h')) → Q r h') → uCall Mt (d + 6 * n + 4) 106 [(.inr (.inr (some 5))), (.inl a1)] h0 kc ks Q := by
  induction n with
  | zero => exact fun hO a b e p q k => st_X8_op_0 hO a (by omega) p q k
  | succ n ih => exact fun {d kc ks h0 Q} hO a b e p q k => uCall_le (show d + 6 * n + 10 ≤ d + 6 * (n + 1) + 4 by omega) (st_X8_op_s (d := d + 6 * n) n (fun {kc ks h0 Q} hO a b e p q k => ih hO a b e p q k) (fun {kc ks h0 Q} hO a b e p q k => uCall_le (show d + 6 * n + 4 ≤ d + 6 * n + 9 by omega) (ih hO a b e p q k)) hO a b e p q k)
theorem st_X8_rE {d kc ks : Nat} {h0 : aH} {Q : Option aV → aH → Prop} {t : Int → Int} (hO : OK h0) (a1 : Int32) (b1 : 0 ≤ a1.toInt ∧ a1.toInt ≤ 6) (p : tC h0 = t) (q : 0 ≤ fO h0 5 2 ∧ fO h0 5 2 ≤ fO h0 5 1 ∧ fO h0 5 1 ≤ 120 ∧ fO h0 5 3 = -1 ∧ 0 ≤ fO h0 5 5 ∧ fO h0 5 5 ≤ fO h0 5 2) (hQ : ∀ r h', (r = none) → OK h' → un [] h0 h' → (0 ≤ fO h' 5 5 ∧ fO h' 5 5 - fO h' 5 2 ≤ fO h0 5 5 - fO h0 5 2 ∧ fO h0 5 2 ≤ fO h' 5 2 ∧ fO h' 5 2 ≤ fO h' 5 1 ∧ fO h' 5 1 = fO h0 5 1 ∧ fO h' 5 3 ≤ fO h' 5 1) → (COt t 5 a1.toInt (fO h0 5 2) (tkC h0) (fO h' 5 3) (fO h' 5 2) (tkC h')) → Q r h') : uCall Mt (d + 45) 101 [(.inr (.inr (some 5))), (.inl a1)] h0 kc ks Q := uCall_le (show d + 6 * 6 + 9 ≤ d + 45 by omega) (st_X8_readEither (d := d + 6 * 6) 6 (fun {kc ks h0 Q} hO a b e p q k => st_X8_op 6 hO a b e p q k) hO a1 b1 (by omega) p q hQ)
end TCH
