/-! THE SKY, its leaves; printed by program but for its head -/
section SKY
def bt0 (s : Int32) (i : Int) : Int := ((s >>> (Int32.ofInt i &&& 31)) &&& 1).toInt
noncomputable def bt : Int32 → Int → Int := Classical.choose (⟨bt0, rfl⟩ : ∃ f, f = bt0)
theorem bt_eq (s : Int32) (i : Int) : bt s i = bt0 s i := by
  have h : bt = bt0 := Classical.choose_spec (⟨bt0, rfl⟩ : ∃ f, f = bt0)
  rw [h]
theorem bt_of {s i u v : Int32} (e1 : s >>> (i &&& 31) = u) (e2 : u &&& 1 = v) : bt s i.toInt = v.toInt := by
  subst e2 e1
  rw [bt_eq]
  unfold bt0
  rw [Int32.ofInt_toInt]
def agV0 (n : Int) : Int32 := (1 <<< (Int32.ofInt n &&& 31)) - 1
noncomputable def agV : Int → Int32 := Classical.choose (⟨agV0, rfl⟩ : ∃ f, f = agV0)
theorem agV_eq (n : Int) : agV n = agV0 n := by
  have h : agV = agV0 := Classical.choose_spec (⟨agV0, rfl⟩ : ∃ f, f = agV0)
  rw [h]
theorem agV_of {n u v : Int32} (e1 : 1 <<< (n &&& 31) = u) (e2 : u - 1 = v) : v = agV n.toInt := by
  subst e2 e1
  rw [agV_eq]
  unfold agV0
  rw [Int32.ofInt_toInt]
theorem agV_r {n : Int} (h : 0 ≤ n ∧ n ≤ 4) : 0 ≤ (agV n).toInt ∧ (agV n).toInt ≤ 15 := by
  rw [agV_eq]
  rcases (show n = 0 ∨ n = 1 ∨ n = 2 ∨ n = 3 ∨ n = 4 by omega) with q | q | q | q | q <;> subst q <;> decide
theorem agV_bt {n i : Int} (h : 0 ≤ n ∧ n ≤ 4) (hi : 0 ≤ i ∧ i < n) : bt (agV n) i = 1 := by
  rw [agV_eq, bt_eq]
  rcases (show n = 0 ∨ n = 1 ∨ n = 2 ∨ n = 3 ∨ n = 4 by omega) with q | q | q | q | q <;> subst q <;> rcases (show i = 0 ∨ i = 1 ∨ i = 2 ∨ i = 3 by omega) with p | p | p | p <;> subst p <;> first | decide | omega
/-- whatever signs are wanted, there is a number with them as bits -/
theorem sg_ex {n : Int} (h : 0 ≤ n ∧ n ≤ 4) (b : Int → Bool) : ∃ g : Int32, 0 ≤ g.toInt ∧ g.toInt ≤ (agV n).toInt ∧ ∀ i : Int, 0 ≤ i → i < n → (bt g i = 1 ↔ b i = true) := by
  have k : ∀ b0 b1 b2 b3 : Bool, ∃ g : Int32, 0 ≤ g.toInt ∧ g.toInt ≤ 15 ∧ (n ≤ 0 → g.toInt ≤ 0) ∧ (n ≤ 1 → g.toInt ≤ 1) ∧ (n ≤ 2 → g.toInt ≤ 3) ∧ (n ≤ 3 → g.toInt ≤ 7) ∧ (0 < n → (bt0 g 0 = 1 ↔ b0 = true)) ∧ (1 < n → (bt0 g 1 = 1 ↔ b1 = true)) ∧ (2 < n → (bt0 g 2 = 1 ↔ b2 = true)) ∧ (3 < n → (bt0 g 3 = 1 ↔ b3 = true)) := by
    intro b0 b1 b2 b3
    rcases (show n = 0 ∨ n = 1 ∨ n = 2 ∨ n = 3 ∨ n = 4 by omega) with q | q | q | q | q <;> subst q <;> cases b0 <;> cases b1 <;> cases b2 <;> cases b3 <;> first | exact ⟨0, by decide⟩ | exact ⟨1, by decide⟩ | exact ⟨2, by decide⟩ | exact ⟨3, by decide⟩ | exact ⟨4, by decide⟩ | exact ⟨5, by decide⟩ | exact ⟨6, by decide⟩ | exact ⟨7, by decide⟩ | exact ⟨8, by decide⟩ | exact ⟨9, by decide⟩ | exact ⟨10, by decide⟩ | exact ⟨11, by decide⟩ | exact ⟨12, by decide⟩ | exact ⟨13, by decide⟩ | exact ⟨14, by decide⟩ | exact ⟨15, by decide⟩
  obtain ⟨g, g0, g1, l0, l1, l2, l3, e0, e1, e2, e3⟩ := k (b 0) (b 1) (b 2) (b 3)
  refine ⟨g, g0, ?_, fun i i0 i1 => ?_⟩
  · rw [agV_eq]
    rcases (show n = 0 ∨ n = 1 ∨ n = 2 ∨ n = 3 ∨ n = 4 by omega) with q | q | q | q | q <;> subst q
    · have : (agV0 0).toInt = 0 := by decide
      omega
    · have : (agV0 1).toInt = 1 := by decide
      omega
    · have : (agV0 2).toInt = 3 := by decide
      omega
    · have : (agV0 3).toInt = 7 := by decide
      omega
    · have : (agV0 4).toInt = 15 := by decide
      omega
  · rw [bt_eq]
    rcases (show i = 0 ∨ i = 1 ∨ i = 2 ∨ i = 3 by omega) with p | p | p | p <;> subst p
    · exact e0 (by omega)
    · exact e1 (by omega)
    · exact e2 (by omega)
    · exact e3 (by omega)
/-- what the great bodies of a set pull on a day -/
noncomputable def plF (R P : Int → Int) (s : Int32) (t : Int) : Nat → Int
  | 0 => 0
  | n + 1 => plF R P s t n + (if bt s (n : Int) = 1 then (if 2 * (t % R (n : Int)) < R (n : Int) then P (n : Int) else -P (n : Int)) else 0)
def PLr (R P : Int → Int) (s : Int32) (t i x : Int) : Prop := 0 ≤ i ∧ plF R P s t i.toNat = x
theorem PL_0 {R P : Int → Int} {s : Int32} {t i x : Int} (hi : i = 0) (hx : x = 0) : PLr R P s t i x := by
  subst hi hx
  exact ⟨Int.le_refl 0, rfl⟩
theorem PL_e {R P : Int → Int} {s : Int32} {t i i' x x' : Int} (h : PLr R P s t i x) (hi : i' = i) (hx : x' = x) : PLr R P s t i' x' := by
  subst hi hx
  exact h
theorem PL_s {R P : Int → Int} {s : Int32} {t i x : Int} (h : PLr R P s t i x) : PLr R P s t (i + 1) (x + (if bt s i = 1 then (if 2 * (t % R i) < R i then P i else -P i) else 0)) := by
  obtain ⟨h0, h1⟩ := h
  refine ⟨by omega, ?_⟩
  rw [show (i + 1).toNat = i.toNat + 1 by omega]
  show plF R P s t i.toNat + (if bt s (i.toNat : Int) = 1 then (if 2 * (t % R (i.toNat : Int)) < R (i.toNat : Int) then P (i.toNat : Int) else -P (i.toNat : Int)) else 0) = _
  rw [show ((i.toNat : Nat) : Int) = i by omega, h1]
theorem PL_a {R P : Int → Int} {s : Int32} {t i i' x x' r p m : Int} (h : PLr R P s t i x) (b : bt s i = 1) (hr : R i = r) (hp : P i = p) (hm : m = t % r) (q : 2 * m < r) (e : i' = i + 1) (e2 : x' = x + p) : PLr R P s t i' x' := by
  have g := PL_s h
  rw [if_pos b, hr, ← hm, if_pos q, hp, ← e, ← e2] at g
  exact g
theorem PL_b {R P : Int → Int} {s : Int32} {t i i' x x' r p m : Int} (h : PLr R P s t i x) (b : bt s i = 1) (hr : R i = r) (hp : P i = p) (hm : m = t % r) (q : ¬ 2 * m < r) (e : i' = i + 1) (e2 : x' = x - p) : PLr R P s t i' x' := by
  have g := PL_s h
  rw [if_pos b, hr, ← hm, if_neg q, hp, ← e, ← Int.sub_eq_add_neg, ← e2] at g
  exact g
theorem PL_c {R P : Int → Int} {s : Int32} {t i i' x x' : Int} (h : PLr R P s t i x) (b : bt s i ≠ 1) (e : i' = i + 1) (e2 : x' = x) : PLr R P s t i' x' := by
  have g := PL_s h
  rw [if_neg b, Int.add_zero, ← e, ← e2] at g
  exact g
theorem plF_c {R P R' P' : Int → Int} {s : Int32} {t : Int} : ∀ {n : Nat}, (∀ j : Int, 0 ≤ j → j < (n : Int) → R' j = R j ∧ P' j = P j) → plF R' P' s t n = plF R P s t n
  | 0, _ => rfl
  | n + 1, h => by
    have ih := plF_c (n := n) (R := R) (P := P) (R' := R') (P' := P') (s := s) (t := t) (fun j j0 j1 => h j j0 (by omega))
    have e := h (n : Int) (by omega) (by omega)
    show plF R' P' s t n + _ = plF R P s t n + _
    rw [ih, e.1, e.2]
/-- all pulls; the pulls with signs -/
def saF (P : Int → Int) : Nat → Int
  | 0 => 0
  | n + 1 => saF P n + P (n : Int)
noncomputable def sgF (P : Int → Int) (s : Int32) : Nat → Int
  | 0 => 0
  | n + 1 => sgF P s n + (if bt s (n : Int) = 1 then P (n : Int) else -P (n : Int))
def SAr (P : Int → Int) (i x : Int) : Prop := 0 ≤ i ∧ saF P i.toNat = x
def SGr (P : Int → Int) (s : Int32) (i x : Int) : Prop := 0 ≤ i ∧ sgF P s i.toNat = x
theorem SA_0 {P : Int → Int} {i x : Int} (hi : i = 0) (hx : x = 0) : SAr P i x := by
  subst hi hx
  exact ⟨Int.le_refl 0, rfl⟩
theorem SA_s {P : Int → Int} {i i' x x' p : Int} (h : SAr P i x) (hp : P i = p) (e : i' = i + 1) (e2 : x' = x + p) : SAr P i' x' := by
  subst e e2
  obtain ⟨h0, h1⟩ := h
  refine ⟨by omega, ?_⟩
  rw [show (i + 1).toNat = i.toNat + 1 by omega]
  show saF P i.toNat + P (i.toNat : Int) = _
  rw [show ((i.toNat : Nat) : Int) = i by omega, h1, hp]
theorem SA_e {P : Int → Int} {i i' x x' : Int} (h : SAr P i x) (hi : i' = i) (hx : x' = x) : SAr P i' x' := by
  subst hi hx
  exact h
theorem SG_0 {P : Int → Int} {s : Int32} {i x : Int} (hi : i = 0) (hx : x = 0) : SGr P s i x := by
  subst hi hx
  exact ⟨Int.le_refl 0, rfl⟩
theorem SG_a {P : Int → Int} {s : Int32} {i i' x x' p : Int} (h : SGr P s i x) (b : bt s i = 1) (hp : P i = p) (e : i' = i + 1) (e2 : x' = x + p) : SGr P s i' x' := by
  subst e e2
  obtain ⟨h0, h1⟩ := h
  refine ⟨by omega, ?_⟩
  rw [show (i + 1).toNat = i.toNat + 1 by omega]
  show sgF P s i.toNat + (if bt s (i.toNat : Int) = 1 then P (i.toNat : Int) else -P (i.toNat : Int)) = _
  rw [show ((i.toNat : Nat) : Int) = i by omega, h1, if_pos b, hp]
theorem SG_b {P : Int → Int} {s : Int32} {i i' x x' p : Int} (h : SGr P s i x) (b : bt s i ≠ 1) (hp : P i = p) (e : i' = i + 1) (e2 : x' = x - p) : SGr P s i' x' := by
  subst e e2
  obtain ⟨h0, h1⟩ := h
  refine ⟨by omega, ?_⟩
  rw [show (i + 1).toNat = i.toNat + 1 by omega]
  show sgF P s i.toNat + (if bt s (i.toNat : Int) = 1 then P (i.toNat : Int) else -P (i.toNat : Int)) = _
  rw [show ((i.toNat : Nat) : Int) = i by omega, h1, if_neg b, hp, Int.sub_eq_add_neg]
theorem SG_e {P : Int → Int} {s : Int32} {i i' x x' : Int} (h : SGr P s i x) (hi : i' = i) (hx : x' = x) : SGr P s i' x' := by
  subst hi hx
  exact h
theorem plF_b {R P : Int → Int} {s : Int32} {t : Int} : ∀ {n : Nat}, (∀ j : Int, 0 ≤ j → j < (n : Int) → 0 ≤ P j) → -saF P n ≤ plF R P s t n ∧ plF R P s t n ≤ saF P n
  | 0, _ => ⟨Int.le_refl _, Int.le_refl _⟩
  | n + 1, h => by
    have ih := plF_b (n := n) (R := R) (s := s) (t := t) (fun j j0 j1 => h j j0 (by omega))
    have e := h (n : Int) (by omega) (by omega)
    show -(saF P n + P (n : Int)) ≤ plF R P s t n + _ ∧ plF R P s t n + _ ≤ saF P n + P (n : Int)
    by_cases q : bt s (n : Int) = 1
    · rw [if_pos q]
      by_cases k : 2 * (t % R (n : Int)) < R (n : Int)
      · rw [if_pos k]
        omega
      · rw [if_neg k]
        omega
    · rw [if_neg q]
      omega
theorem sgF_pl {R P : Int → Int} {s g : Int32} {t : Int} : ∀ {n : Nat}, (∀ j : Int, 0 ≤ j → j < (n : Int) → bt s j = 1 ∧ (bt g j = 1 ↔ 2 * (t % R j) < R j)) → sgF P g n = plF R P s t n
  | 0, _ => rfl
  | n + 1, h => by
    have ih := sgF_pl (n := n) (R := R) (P := P) (s := s) (g := g) (t := t) (fun j j0 j1 => h j j0 (by omega))
    have e := h (n : Int) (by omega) (by omega)
    show sgF P g n + _ = plF R P s t n + _
    rw [ih, if_pos e.1]
    by_cases k : 2 * (t % R (n : Int)) < R (n : Int)
    · rw [if_pos k, if_pos (e.2.mpr k)]
    · rw [if_neg k, if_neg (fun z => k (e.2.mp z))]
/-- the next pass behind one on day t -/
noncomputable def nxF0 (R P : Int → Int) (n sp t : Int) : Int := t + sp + plF R P (agV n) t n.toNat
noncomputable def nxF : (Int → Int) → (Int → Int) → Int → Int → Int → Int := Classical.choose (⟨nxF0, rfl⟩ : ∃ f, f = nxF0)
theorem nxF_eq (R P : Int → Int) (n sp t : Int) : nxF R P n sp t = nxF0 R P n sp t := by
  have h : nxF = nxF0 := Classical.choose_spec (⟨nxF0, rfl⟩ : ∃ f, f = nxF0)
  rw [h]
/-- the pass ahead: the greatest day below t whose next pass is t, else t less the span -/
def PAr (nx : Int → Int) (t d x : Int) : Prop := (0 ≤ x ∧ x < t ∧ nx x = t ∧ ∀ u : Int, x < u → u < t → nx u ≠ t) ∨ ((∀ u : Int, 0 ≤ u → u < t → nx u ≠ t) ∧ x = d)
theorem PA_u {nx : Int → Int} {t d x y : Int} (h : PAr nx t d x) (g : PAr nx t d y) : x = y := by
  rcases h with ⟨a, b, c, e⟩ | ⟨a, b⟩
  · rcases g with ⟨a', b', c', e'⟩ | ⟨a', b'⟩
    · rcases Int.lt_trichotomy x y with q | q | q
      · exact absurd c' (e y q b')
      · exact q
      · exact absurd c (e' x q b)
    · exact absurd c (a' x a b)
  · rcases g with ⟨a', b', c', e'⟩ | ⟨a', b'⟩
    · exact absurd c' (a y a' b')
    · rw [b, b']
/-- the best of all signed sums is the greatest day -/
theorem PA_sg {R P : Int → Int} {n sp t g : Int} (hn : 0 ≤ n ∧ n ≤ 4) (h1 : g = -1 ∨ (0 ≤ g ∧ g < t ∧ nxF R P n sp g = t)) (h2 : ∀ k : Int32, 0 ≤ k.toInt → k.toInt ≤ (agV n).toInt → 0 ≤ t - sp - sgF P k n.toNat → t - sp - sgF P k n.toNat < t → nxF R P n sp (t - sp - sgF P k n.toNat) = t → t - sp - sgF P k n.toNat ≤ g) : PAr (nxF R P n sp) t (t - sp) (if g = -1 then t - sp else g) := by
  have key : ∀ u : Int, 0 ≤ u → u < t → nxF R P n sp u = t → u ≤ g := fun u u0 u1 e => by
    obtain ⟨k, k0, k1, k2⟩ := sg_ex hn (fun j => decide (2 * (u % R j) < R j))
    have s : sgF P k n.toNat = plF R P (agV n) u n.toNat := sgF_pl (fun j j0 j1 => ⟨agV_bt hn ⟨j0, by omega⟩, (k2 j j0 (by omega)).trans decide_eq_true_iff⟩)
    have e' := e
    rw [nxF_eq] at e'
    unfold nxF0 at e'
    have c : t - sp - sgF P k n.toNat = u := by rw [s]; omega
    have := h2 k k0 k1 (by rw [c]; exact u0) (by rw [c]; exact u1) (by rw [c]; exact e)
    rw [c] at this
    exact this
  by_cases q : g = -1
  · rw [if_pos q]
    exact Or.inr ⟨fun u u0 u1 e => by have := key u u0 u1 e; omega, rfl⟩
  · rw [if_neg q]
    rcases h1 with h1 | ⟨a, b, c⟩
    · exact absurd h1 q
    · exact Or.inl ⟨a, b, c, fun u u0 u1 e => by have := key u (by omega) u1 e; omega⟩
def RPm (h : aH) : Prop := ∀ i : Int, 0 ≤ i → i < fI h 1 → (100 ≤ gI h 70 i ∧ gI h 70 i ≤ 20000) ∧ 0 ≤ gI h 71 i ∧ gI h 71 i ≤ 60
def RPc (h : aH) : Prop := ∀ i : Int, 0 ≤ i → i < fO h 1 2 → (100 ≤ gI h 2 i ∧ gI h 2 i ≤ 20000) ∧ 0 ≤ gI h 3 i ∧ gI h 3 i ≤ 60
set_option maxRecDepth 20000 in
set_option maxHeartbeats 4000000 in
theorem sd_X6_allGreats {d kc ks : Nat} {h0 : aH} {Q : Option aV → aH → Prop} (hO0 : OK h0)  (hQ : ∀ r, (∃ x : Int32, r = some (.inl x) ∧ (x = agV (fO h0 1 2) ∧ 0 ≤ x.toInt ∧ x.toInt ≤ 15)) → Q r h0) : uCall Mt (d + 1) 61 [(.inr (.inr (some 1)))] h0 kc ks Q := by
  have l_1 : ((1) : Int32).toInt = 1 := by decide
  refine uc_ink [some (.inr (.inr (some 1)))] mt_61 (Nat.le_of_ble_eq_true rfl) rfl ?_
  obtain ⟨f2, f3, hc1, k4⟩ := ok_1 hO0
  have t5 := fO_of (k := 2) hc1 rfl
  refine ur_push rfl ?_
  refine ur_ldA rfl rfl ?_
  refine ur_get rfl hc1 rfl ?_
  refine ur_binV rfl (fun x6 e7 => ?_)
  refine ur_push rfl ?_
  refine ur_binV rfl (fun x8 e9 => ?_)
  have z10 := any_r x6
  exact ur_ret rfl rfl (hQ _ ⟨_, rfl, (by have e : x8 = agV (fO h0 1 2) := (agV_of e7 e9).trans (congrArg agV (show f2.toInt = fO h0 1 2 by omega)); exact ⟨e, by rw [e]; exact agV_r (by omega)⟩)⟩ )

set_option maxRecDepth 20000 in
set_option maxHeartbeats 4000000 in
theorem sd_X12_allGreats {d kc ks : Nat} {h0 : aH} {Q : Option aV → aH → Prop} (hO0 : OK h0)  (hQ : ∀ r, (∃ x : Int32, r = some (.inl x) ∧ (x = agV (fI h0 1) ∧ 0 ≤ x.toInt ∧ x.toInt ≤ 15)) → Q r h0) : uCall Mt (d + 1) 197 [(.inr (.inr (some 69)))] h0 kc ks Q := by
  have l_1 : ((1) : Int32).toInt = 1 := by decide
  refine uc_ink [some (.inr (.inr (some 69)))] mt_197 (Nat.le_of_ble_eq_true rfl) rfl ?_
  obtain ⟨fs1, hc2⟩ := hO0.mod
  obtain ⟨f3, p4, t5⟩ := mf_1 hO0 hc2
  have t6 := fI_of hc2 p4
  refine ur_push rfl ?_
  refine ur_ldA rfl rfl ?_
  refine ur_get rfl hc2 p4 ?_
  refine ur_binV rfl (fun x7 e8 => ?_)
  refine ur_push rfl ?_
  refine ur_binV rfl (fun x9 e10 => ?_)
  have z11 := any_r x7
  exact ur_ret rfl rfl (hQ _ ⟨_, rfl, (by have e : x9 = agV (fI h0 1) := (agV_of e8 e10).trans (congrArg agV (show f3.toInt = fI h0 1 by omega)); exact ⟨e, by rw [e]; exact agV_r (by omega)⟩)⟩ )

set_option maxRecDepth 20000 in
set_option maxHeartbeats 4000000 in
theorem sd_X6_pulledFrom {d kc ks : Nat} {h0 : aH} {Q : Option aV → aH → Prop} (hO0 : OK h0) (a1 : Int32) (b1 : 0 ≤ a1.toInt ∧ a1.toInt ≤ 999999) (a2 : Int32) (pre0 : RPc h0) (hQ : ∀ r, (∃ x : Int32, r = some (.inl x) ∧ (PLr (gI h0 2) (gI h0 3) a2 a1.toInt (fO h0 1 2) (x.toInt) ∧ -240 ≤ x.toInt ∧ x.toInt ≤ 240)) → Q r h0) : uCall Mt (d + 1) 70 [(.inr (.inr (some 1))), (.inl a1), (.inl a2)] h0 kc ks Q := by
  have l_0 : ((0) : Int32).toInt = 0 := by decide
  have l_1 : ((1) : Int32).toInt = 1 := by decide
  have l_2 : ((2) : Int32).toInt = 2 := by decide
  refine uc_ink [some (.inr (.inr (some 1))), some (.inl a1), some (.inl a2), none, none, none] mt_70 (Nat.le_of_ble_eq_true rfl) rfl ?_
  obtain ⟨f2, f3, hc1, k4⟩ := ok_1 hO0
  have t5 := fO_of (k := 2) hc1 rfl
  refine ur_push rfl ?_
  refine ur_svIk [some (.inr (.inr (some 1))), some (.inl a1), some (.inl a2), some (.inl 0), none, none] rfl rfl ?_
  refine ur_push rfl ?_
  refine ur_svIk [some (.inr (.inr (some 1))), some (.inl a1), some (.inl a2), some (.inl 0), some (.inl 0), none] rfl rfl ?_
  have L9 : ∀ (m10 : Nat) (x6 : Int32) (x7 : Int32) (u8 : Option aV) , ((0 ≤ x7.toInt ∧ x7.toInt ≤ 4) ∧ (-240 ≤ x6.toInt ∧ x6.toInt ≤ 240) ∧ -(60 * x7.toInt) ≤ x6.toInt ∧ x6.toInt ≤ 60 * x7.toInt ∧ x7.toInt ≤ fO h0 1 2) → (PLr (gI h0 2) (gI h0 3) a2 a1.toInt x7.toInt (x6.toInt)) → ((5 - x7.toInt).toNat) < m10 → uRun oX6_pulledFrom (uCall Mt (d + 0)) Q 5 ([some (.inr (.inr (some 1))), some (.inl a1), some (.inl a2), some (.inl x6), some (.inl x7), u8], [], h0, kc, ks) := by
    intro m10
    induction m10 with
    | zero => intro x6 x7 u8 iv13 px12 mm14; omega
    | succ m10 ih11 =>
      intro x6 x7 u8 iv13 px12 mm14
      refine ur_ldI rfl rfl ?_
      refine ur_ldA rfl rfl ?_
      refine ur_get rfl hc1 rfl ?_
      have z15 := any_r x7
      have z16 := any_r f2
      refine ur_if2 rfl (fun c17 => ?_) (fun c17 => ?_)
      · have t18 := le_to c17
        refine ur_ldI rfl rfl ?_
        exact ur_ret rfl rfl (hQ _ ⟨_, rfl, ⟨PL_e px12 (by omega) rfl, by omega⟩⟩ )
      · have t19 := le_no c17
        refine ur_ldA rfl rfl ?_
        refine ur_get rfl hc1 rfl ?_
        refine ur_ldI rfl rfl ?_
        obtain ⟨xs21, hc20, hn22, he23⟩ := hO0.int (hO0.fix 2 (by decide) rfl)
        refine ur_aldV rfl hc20 hn22 (by omega) (fun x24 hx25 => ?_)
        have t26 := gI_of (j := x7) hc20 hx25
        have t27 := pre0 x7.toInt (by omega) (by omega)
        refine ur_svIk [some (.inr (.inr (some 1))), some (.inl a1), some (.inl a2), some (.inl x6), some (.inl x7), some (.inl x24)] rfl rfl ?_
        refine ur_ldI rfl rfl ?_
        refine ur_ldI rfl rfl ?_
        refine ur_binV rfl (fun x28 e29 => ?_)
        have z30 := any_r a2
        refine ur_push rfl ?_
        refine ur_binV rfl (fun x31 e32 => ?_)
        have t33 := and_1 e32
        have t34 := bt_of e29 e32
        refine ur_if1 rfl (fun c35 => ?_) (fun c35 => ?_)
        · have t36 := eq_to c35
          refine ur_incV (fun z => [some (.inr (.inr (some 1))), some (.inl a1), some (.inl a2), some (.inl x6), some (.inl z), some (.inl x24)]) rfl rfl (fun _ => rfl) (fun x37 e38 => ?_)
          have t39 := ti_add e38 (by omega) (by omega)
          refine ur_go rfl ?_
          have z40 := any_r x6
          have z41 := any_r x37
          exact ih11 x6 x37 _ (by omega) (PL_c px12 (by omega) (by omega) (by omega)) (by omega)
        · have t42 := eq_no c35
          refine ur_ldI rfl rfl ?_
          refine ur_if1 rfl (fun c43 => ?_) (fun c43 => ?_)
          · have t44 := ne_to c43
            refine ur_ldI rfl rfl ?_
            refine ur_push rfl ?_
            refine ur_ldI rfl rfl ?_
            refine ur_ldI rfl rfl ?_
            refine ur_divV rfl (nz_of (by omega)) (fun x45 e46 => ?_)
            have z47 := any_r a1
            have z48 := any_r x24
            have t49 := ti_rem e46 rfl (by omega) (by omega)
            have t50 : 0 ≤ x45.toInt ∧ x45.toInt ≤ 19999 := by have b := Int.emod_lt_of_pos a1.toInt (show 0 < x24.toInt by omega); have c := Int.emod_nonneg a1.toInt (show x24.toInt ≠ 0 by omega); rw [← t49] at b c; omega
            refine ur_binV rfl (fun x51 e52 => ?_)
            have z53 := any_r x45
            have t54 := ti_mulR e52 l_2 (by omega) (by omega)
            refine ur_ldI rfl rfl ?_
            have z55 := any_r x51
            refine ur_if2 rfl (fun c56 => ?_) (fun c56 => ?_)
            · have t57 := le_to c56
              refine ur_ldA rfl rfl ?_
              refine ur_get rfl hc1 rfl ?_
              refine ur_ldI rfl rfl ?_
              obtain ⟨xs59, hc58, hn60, he61⟩ := hO0.int (hO0.fix 3 (by decide) rfl)
              refine ur_aldV rfl hc58 hn60 (by omega) (fun x62 hx63 => ?_)
              have t64 := gI_of (j := x7) hc58 hx63
              have t65 : 0 ≤ x62.toInt ∧ x62.toInt ≤ 60 := he61 _ _ hx63
              have t66 := pre0 x7.toInt (by omega) (by omega)
              refine ur_unV rfl (fun x67 e68 => ?_)
              have z69 := any_r x62
              have t70 := ti_neg e68 (by omega)
              refine ur_binV rfl (fun x71 e72 => ?_)
              have z73 := any_r x6
              have z74 := any_r x67
              have t75 := ti_add e72 (by omega) (by omega)
              refine ur_svIk [some (.inr (.inr (some 1))), some (.inl a1), some (.inl a2), some (.inl x71), some (.inl x7), some (.inl x24)] rfl rfl ?_
              refine ur_incV (fun z => [some (.inr (.inr (some 1))), some (.inl a1), some (.inl a2), some (.inl x71), some (.inl z), some (.inl x24)]) rfl rfl (fun _ => rfl) (fun x76 e77 => ?_)
              have t78 := ti_add e77 (by omega) (by omega)
              refine ur_go rfl ?_
              have z79 := any_r x71
              have z80 := any_r x76
              exact ih11 x71 x76 _ (by omega) (PL_b (r := x24.toInt) (p := x62.toInt) (m := x45.toInt) px12 (by omega) (by omega) (by omega) t49 (by omega) (by omega) (by omega)) (by omega)
            · have t81 := le_no c56
              refine ur_ldA rfl rfl ?_
              refine ur_get rfl hc1 rfl ?_
              refine ur_ldI rfl rfl ?_
              obtain ⟨xs83, hc82, hn84, he85⟩ := hO0.int (hO0.fix 3 (by decide) rfl)
              refine ur_aldV rfl hc82 hn84 (by omega) (fun x86 hx87 => ?_)
              have t88 := gI_of (j := x7) hc82 hx87
              have t89 : 0 ≤ x86.toInt ∧ x86.toInt ≤ 60 := he85 _ _ hx87
              have t90 := pre0 x7.toInt (by omega) (by omega)
              refine ur_go rfl ?_
              refine ur_binV rfl (fun x91 e92 => ?_)
              have z93 := any_r x6
              have z94 := any_r x86
              have t95 := ti_add e92 (by omega) (by omega)
              refine ur_svIk [some (.inr (.inr (some 1))), some (.inl a1), some (.inl a2), some (.inl x91), some (.inl x7), some (.inl x24)] rfl rfl ?_
              refine ur_incV (fun z => [some (.inr (.inr (some 1))), some (.inl a1), some (.inl a2), some (.inl x91), some (.inl z), some (.inl x24)]) rfl rfl (fun _ => rfl) (fun x96 e97 => ?_)
              have t98 := ti_add e97 (by omega) (by omega)
              refine ur_go rfl ?_
              have z99 := any_r x91
              have z100 := any_r x96
              exact ih11 x91 x96 _ (by omega) (PL_a (r := x24.toInt) (p := x86.toInt) (m := x45.toInt) px12 (by omega) (by omega) (by omega) t49 (by omega) (by omega) (by omega)) (by omega)
          · have t101 := ne_no c43
            exfalso
            omega
  exact L9 _ 0 0 (none) (by omega) (PL_0 (by omega) (by omega)) (Nat.lt_succ_self _)

set_option maxRecDepth 20000 in
set_option maxHeartbeats 4000000 in
theorem sd_X12_passBehind {d kc ks : Nat} {h0 : aH} {Q : Option aV → aH → Prop} (hO0 : OK h0) (hX0 : SX h0) (a1 : Int32) (b1 : 0 ≤ a1.toInt ∧ a1.toInt ≤ 999999) (a2 : Int32) (b2 : -100000 ≤ a2.toInt ∧ a2.toInt ≤ 100000) (a3 : Int32) (pre0 : RPm h0) (hQ : ∀ r, (∃ x : Int32, r = some (.inl x) ∧ (PLr (gI h0 70) (gI h0 71) a3 a1.toInt (fI h0 1) (x.toInt - a1.toInt - a2.toInt) ∧ -240 ≤ x.toInt - a1.toInt - a2.toInt ∧ x.toInt - a1.toInt - a2.toInt ≤ 240)) → Q r h0) : uCall Mt (d + 1) 196 [(.inr (.inr (some 69))), (.inl a1), (.inl a2), (.inl a3)] h0 kc ks Q := by
  have l_0 : ((0) : Int32).toInt = 0 := by decide
  have l_1 : ((1) : Int32).toInt = 1 := by decide
  have l_2 : ((2) : Int32).toInt = 2 := by decide
  refine uc_ink [some (.inr (.inr (some 69))), some (.inl a1), some (.inl a2), some (.inl a3), none, none] mt_196 (Nat.le_of_ble_eq_true rfl) rfl ?_
  obtain ⟨fs1, hc2⟩ := hO0.mod
  obtain ⟨f3, p4, t5⟩ := mf_1 hO0 hc2
  have t6 := fI_of hc2 p4
  refine ur_ldI rfl rfl ?_
  refine ur_ldI rfl rfl ?_
  refine ur_binV rfl (fun x7 e8 => ?_)
  have z9 := any_r a1
  have z10 := any_r a2
  have t11 := ti_add e8 (by omega) (by omega)
  refine ur_svIk [some (.inr (.inr (some 69))), some (.inl a1), some (.inl a2), some (.inl a3), some (.inl x7), none] rfl rfl ?_
  refine ur_push rfl ?_
  refine ur_svIk [some (.inr (.inr (some 69))), some (.inl a1), some (.inl a2), some (.inl a3), some (.inl x7), some (.inl 0)] rfl rfl ?_
  have L14 : ∀ (m15 : Nat) (x12 : Int32) (x13 : Int32) , ((0 ≤ x13.toInt ∧ x13.toInt ≤ 4) ∧ (-100240 ≤ x12.toInt ∧ x12.toInt ≤ 1100239) ∧ -(60 * x13.toInt) ≤ x12.toInt - a1.toInt - a2.toInt ∧ x12.toInt - a1.toInt - a2.toInt ≤ 60 * x13.toInt ∧ x13.toInt ≤ fI h0 1) → (PLr (gI h0 70) (gI h0 71) a3 a1.toInt x13.toInt (x12.toInt - a1.toInt - a2.toInt)) → ((5 - x13.toInt).toNat) < m15 → uRun oX12_passBehind (uCall Mt (d + 0)) Q 8 ([some (.inr (.inr (some 69))), some (.inl a1), some (.inl a2), some (.inl a3), some (.inl x12), some (.inl x13)], [], h0, kc, ks) := by
    intro m15
    induction m15 with
    | zero => intro x12 x13 iv18 px17 mm19; omega
    | succ m15 ih16 =>
      intro x12 x13 iv18 px17 mm19
      refine ur_ldI rfl rfl ?_
      refine ur_ldA rfl rfl ?_
      refine ur_get rfl hc2 p4 ?_
      have z20 := any_r x13
      have z21 := any_r f3
      refine ur_if2 rfl (fun c22 => ?_) (fun c22 => ?_)
      · have t23 := le_to c22
        refine ur_ldI rfl rfl ?_
        exact ur_ret rfl rfl (hQ _ ⟨_, rfl, ⟨PL_e px17 (by omega) rfl, by omega⟩⟩ )
      · have t24 := le_no c22
        refine ur_ldI rfl rfl ?_
        refine ur_ldI rfl rfl ?_
        refine ur_binV rfl (fun x25 e26 => ?_)
        have z27 := any_r a3
        refine ur_push rfl ?_
        refine ur_binV rfl (fun x28 e29 => ?_)
        have t30 := and_1 e29
        have t31 := bt_of e26 e29
        refine ur_push rfl ?_
        refine ur_if2 rfl (fun c32 => ?_) (fun c32 => ?_)
        · have t33 := ne_to c32
          refine ur_incV (fun z => [some (.inr (.inr (some 69))), some (.inl a1), some (.inl a2), some (.inl a3), some (.inl x12), some (.inl z)]) rfl rfl (fun _ => rfl) (fun x34 e35 => ?_)
          have t36 := ti_add e35 (by omega) (by omega)
          refine ur_go rfl ?_
          have z37 := any_r x12
          have z38 := any_r x34
          exact ih16 x12 x34 (by omega) (PL_c px17 (by omega) (by omega) (by omega)) (by omega)
        · have t39 := ne_no c32
          refine ur_ldI rfl rfl ?_
          refine ur_push rfl ?_
          refine ur_ldI rfl rfl ?_
          refine ur_ldA rfl rfl ?_
          refine ur_get rfl hc2 (mf_2 hO0 hc2) ?_
          refine ur_ldI rfl rfl ?_
          obtain ⟨xs41, hc40, hn42, he43⟩ := hO0.int (hO0.fix 70 (by decide) rfl)
          refine ur_aldV rfl hc40 hn42 (by omega) (fun x44 hx45 => ?_)
          have t46 := gI_of (j := x13) hc40 hx45
          have t47 := SX.gx (j := x13) hX0 hc40 hx45 (by omega)
          have t48 := pre0 x13.toInt (by omega) (by omega)
          refine ur_divV rfl (nz_of (by omega)) (fun x49 e50 => ?_)
          have z51 := any_r x44
          have t52 := ti_rem e50 rfl (by omega) (by omega)
          have t53 : 0 ≤ x49.toInt ∧ x49.toInt ≤ 19999 := by have b := Int.emod_lt_of_pos a1.toInt (show 0 < x44.toInt by omega); have c := Int.emod_nonneg a1.toInt (show x44.toInt ≠ 0 by omega); rw [← t52] at b c; omega
          refine ur_binV rfl (fun x54 e55 => ?_)
          have z56 := any_r x49
          have t57 := ti_mulR e55 l_2 (by omega) (by omega)
          refine ur_ldA rfl rfl ?_
          refine ur_get rfl hc2 (mf_2 hO0 hc2) ?_
          refine ur_ldI rfl rfl ?_
          refine ur_aldV rfl hc40 hn42 (by omega) (fun x58 hx59 => ?_)
          obtain rfl : x44 = x58 := Option.some.inj (hx45.symm.trans hx59)
          have t60 := pre0 x13.toInt (by omega) (by omega)
          have z61 := any_r x54
          refine ur_if2 rfl (fun c62 => ?_) (fun c62 => ?_)
          · have t63 := le_to c62
            refine ur_ldA rfl rfl ?_
            refine ur_get rfl hc2 (mf_3 hO0 hc2) ?_
            refine ur_ldI rfl rfl ?_
            obtain ⟨xs65, hc64, hn66, he67⟩ := hO0.int (hO0.fix 71 (by decide) rfl)
            refine ur_aldV rfl hc64 hn66 (by omega) (fun x68 hx69 => ?_)
            have t70 := gI_of (j := x13) hc64 hx69
            have t71 : 0 ≤ x68.toInt ∧ x68.toInt ≤ 60 := he67 _ _ hx69
            have t72 := pre0 x13.toInt (by omega) (by omega)
            refine ur_unV rfl (fun x73 e74 => ?_)
            have z75 := any_r x68
            have t76 := ti_neg e74 (by omega)
            refine ur_binV rfl (fun x77 e78 => ?_)
            have z79 := any_r x12
            have z80 := any_r x73
            have t81 := ti_add e78 (by omega) (by omega)
            refine ur_svIk [some (.inr (.inr (some 69))), some (.inl a1), some (.inl a2), some (.inl a3), some (.inl x77), some (.inl x13)] rfl rfl ?_
            refine ur_incV (fun z => [some (.inr (.inr (some 69))), some (.inl a1), some (.inl a2), some (.inl a3), some (.inl x77), some (.inl z)]) rfl rfl (fun _ => rfl) (fun x82 e83 => ?_)
            have t84 := ti_add e83 (by omega) (by omega)
            refine ur_go rfl ?_
            have z85 := any_r x77
            have z86 := any_r x82
            exact ih16 x77 x82 (by omega) (PL_b (r := x44.toInt) (p := x68.toInt) (m := x49.toInt) px17 (by omega) (by omega) (by omega) t52 (by omega) (by omega) (by omega)) (by omega)
          · have t87 := le_no c62
            refine ur_ldA rfl rfl ?_
            refine ur_get rfl hc2 (mf_3 hO0 hc2) ?_
            refine ur_ldI rfl rfl ?_
            obtain ⟨xs89, hc88, hn90, he91⟩ := hO0.int (hO0.fix 71 (by decide) rfl)
            refine ur_aldV rfl hc88 hn90 (by omega) (fun x92 hx93 => ?_)
            have t94 := gI_of (j := x13) hc88 hx93
            have t95 : 0 ≤ x92.toInt ∧ x92.toInt ≤ 60 := he91 _ _ hx93
            have t96 := pre0 x13.toInt (by omega) (by omega)
            refine ur_go rfl ?_
            refine ur_binV rfl (fun x97 e98 => ?_)
            have z99 := any_r x12
            have z100 := any_r x92
            have t101 := ti_add e98 (by omega) (by omega)
            refine ur_svIk [some (.inr (.inr (some 69))), some (.inl a1), some (.inl a2), some (.inl a3), some (.inl x97), some (.inl x13)] rfl rfl ?_
            refine ur_incV (fun z => [some (.inr (.inr (some 69))), some (.inl a1), some (.inl a2), some (.inl a3), some (.inl x97), some (.inl z)]) rfl rfl (fun _ => rfl) (fun x102 e103 => ?_)
            have t104 := ti_add e103 (by omega) (by omega)
            refine ur_go rfl ?_
            have z105 := any_r x97
            have z106 := any_r x102
            exact ih16 x97 x102 (by omega) (PL_a (r := x44.toInt) (p := x92.toInt) (m := x49.toInt) px17 (by omega) (by omega) (by omega) t52 (by omega) (by omega) (by omega)) (by omega)
  have z107 := any_r x7
  exact L14 _ x7 0 (by omega) (PL_0 (by omega) (by omega)) (Nat.lt_succ_self _)

set_option maxRecDepth 20000 in
set_option maxHeartbeats 4000000 in
theorem sd_X6_signedPulls {d kc ks : Nat} {h0 : aH} {Q : Option aV → aH → Prop} (hO0 : OK h0) (a1 : Int32) (pre0 : RPc h0) (hQ : ∀ r, (∃ x : Int32, r = some (.inl x) ∧ (SGr (gI h0 3) a1 (fO h0 1 2) x.toInt ∧ -240 ≤ x.toInt ∧ x.toInt ≤ 240)) → Q r h0) : uCall Mt (d + 1) 69 [(.inr (.inr (some 1))), (.inl a1)] h0 kc ks Q := by
  have l_0 : ((0) : Int32).toInt = 0 := by decide
  have l_1 : ((1) : Int32).toInt = 1 := by decide
  refine uc_ink [some (.inr (.inr (some 1))), some (.inl a1), none, none] mt_69 (Nat.le_of_ble_eq_true rfl) rfl ?_
  obtain ⟨f2, f3, hc1, k4⟩ := ok_1 hO0
  have t5 := fO_of (k := 2) hc1 rfl
  refine ur_push rfl ?_
  refine ur_svIk [some (.inr (.inr (some 1))), some (.inl a1), some (.inl 0), none] rfl rfl ?_
  refine ur_push rfl ?_
  refine ur_svIk [some (.inr (.inr (some 1))), some (.inl a1), some (.inl 0), some (.inl 0)] rfl rfl ?_
  have L8 : ∀ (m9 : Nat) (x6 : Int32) (x7 : Int32) , ((0 ≤ x7.toInt ∧ x7.toInt ≤ 4) ∧ (-240 ≤ x6.toInt ∧ x6.toInt ≤ 240) ∧ -(60 * x7.toInt) ≤ x6.toInt ∧ x6.toInt ≤ 60 * x7.toInt ∧ x7.toInt ≤ fO h0 1 2) → (SGr (gI h0 3) a1 x7.toInt x6.toInt) → ((5 - x7.toInt).toNat) < m9 → uRun oX6_signedPulls (uCall Mt (d + 0)) Q 4 ([some (.inr (.inr (some 1))), some (.inl a1), some (.inl x6), some (.inl x7)], [], h0, kc, ks) := by
    intro m9
    induction m9 with
    | zero => intro x6 x7 iv12 px11 mm13; omega
    | succ m9 ih10 =>
      intro x6 x7 iv12 px11 mm13
      refine ur_ldI rfl rfl ?_
      refine ur_ldA rfl rfl ?_
      refine ur_get rfl hc1 rfl ?_
      have z14 := any_r x7
      have z15 := any_r f2
      refine ur_if2 rfl (fun c16 => ?_) (fun c16 => ?_)
      · have t17 := le_to c16
        refine ur_ldI rfl rfl ?_
        exact ur_ret rfl rfl (hQ _ ⟨_, rfl, ⟨SG_e px11 (by omega) rfl, by omega⟩⟩ )
      · have t18 := le_no c16
        refine ur_ldI rfl rfl ?_
        refine ur_ldI rfl rfl ?_
        refine ur_ldI rfl rfl ?_
        refine ur_binV rfl (fun x19 e20 => ?_)
        have z21 := any_r a1
        refine ur_push rfl ?_
        refine ur_binV rfl (fun x22 e23 => ?_)
        have t24 := and_1 e23
        have t25 := bt_of e20 e23
        refine ur_push rfl ?_
        refine ur_if2 rfl (fun c26 => ?_) (fun c26 => ?_)
        · have t27 := ne_to c26
          refine ur_ldA rfl rfl ?_
          refine ur_get rfl hc1 rfl ?_
          refine ur_ldI rfl rfl ?_
          obtain ⟨xs29, hc28, hn30, he31⟩ := hO0.int (hO0.fix 3 (by decide) rfl)
          refine ur_aldV rfl hc28 hn30 (by omega) (fun x32 hx33 => ?_)
          have t34 := gI_of (j := x7) hc28 hx33
          have t35 : 0 ≤ x32.toInt ∧ x32.toInt ≤ 60 := he31 _ _ hx33
          have t36 := pre0 x7.toInt (by omega) (by omega)
          refine ur_unV rfl (fun x37 e38 => ?_)
          have z39 := any_r x32
          have t40 := ti_neg e38 (by omega)
          refine ur_binV rfl (fun x41 e42 => ?_)
          have z43 := any_r x6
          have z44 := any_r x37
          have t45 := ti_add e42 (by omega) (by omega)
          refine ur_svIk [some (.inr (.inr (some 1))), some (.inl a1), some (.inl x41), some (.inl x7)] rfl rfl ?_
          refine ur_incV (fun z => [some (.inr (.inr (some 1))), some (.inl a1), some (.inl x41), some (.inl z)]) rfl rfl (fun _ => rfl) (fun x46 e47 => ?_)
          have t48 := ti_add e47 (by omega) (by omega)
          refine ur_go rfl ?_
          have z49 := any_r x41
          have z50 := any_r x46
          exact ih10 x41 x46 (by omega) (SG_b (p := x32.toInt) px11 (by omega) (by omega) (by omega) (by omega)) (by omega)
        · have t51 := ne_no c26
          refine ur_ldA rfl rfl ?_
          refine ur_get rfl hc1 rfl ?_
          refine ur_ldI rfl rfl ?_
          obtain ⟨xs53, hc52, hn54, he55⟩ := hO0.int (hO0.fix 3 (by decide) rfl)
          refine ur_aldV rfl hc52 hn54 (by omega) (fun x56 hx57 => ?_)
          have t58 := gI_of (j := x7) hc52 hx57
          have t59 : 0 ≤ x56.toInt ∧ x56.toInt ≤ 60 := he55 _ _ hx57
          have t60 := pre0 x7.toInt (by omega) (by omega)
          refine ur_go rfl ?_
          refine ur_binV rfl (fun x61 e62 => ?_)
          have z63 := any_r x6
          have z64 := any_r x56
          have t65 := ti_add e62 (by omega) (by omega)
          refine ur_svIk [some (.inr (.inr (some 1))), some (.inl a1), some (.inl x61), some (.inl x7)] rfl rfl ?_
          refine ur_incV (fun z => [some (.inr (.inr (some 1))), some (.inl a1), some (.inl x61), some (.inl z)]) rfl rfl (fun _ => rfl) (fun x66 e67 => ?_)
          have t68 := ti_add e67 (by omega) (by omega)
          refine ur_go rfl ?_
          have z69 := any_r x61
          have z70 := any_r x66
          exact ih10 x61 x66 (by omega) (SG_a (p := x56.toInt) px11 (by omega) (by omega) (by omega) (by omega)) (by omega)
  exact L8 _ 0 0 (by omega) (SG_0 (by omega) (by omega)) (Nat.lt_succ_self _)

set_option maxRecDepth 20000 in
set_option maxHeartbeats 4000000 in
theorem sd_X12_pullsInAll {d kc ks : Nat} {h0 : aH} {Q : Option aV → aH → Prop} (hO0 : OK h0)  (pre0 : RPm h0) (hQ : ∀ r, (∃ x : Int32, r = some (.inl x) ∧ (SAr (gI h0 71) (fI h0 1) x.toInt ∧ 0 ≤ x.toInt ∧ x.toInt ≤ 240)) → Q r h0) : uCall Mt (d + 1) 195 [(.inr (.inr (some 69)))] h0 kc ks Q := by
  have l_0 : ((0) : Int32).toInt = 0 := by decide
  have l_1 : ((1) : Int32).toInt = 1 := by decide
  refine uc_ink [some (.inr (.inr (some 69))), none, none] mt_195 (Nat.le_of_ble_eq_true rfl) rfl ?_
  obtain ⟨fs1, hc2⟩ := hO0.mod
  obtain ⟨f3, p4, t5⟩ := mf_1 hO0 hc2
  have t6 := fI_of hc2 p4
  refine ur_push rfl ?_
  refine ur_svIk [some (.inr (.inr (some 69))), some (.inl 0), none] rfl rfl ?_
  refine ur_push rfl ?_
  refine ur_svIk [some (.inr (.inr (some 69))), some (.inl 0), some (.inl 0)] rfl rfl ?_
  have L9 : ∀ (m10 : Nat) (x7 : Int32) (x8 : Int32) , ((0 ≤ x7.toInt ∧ x7.toInt ≤ 240) ∧ (0 ≤ x8.toInt ∧ x8.toInt ≤ 4) ∧ x7.toInt ≤ 60 * x8.toInt ∧ x8.toInt ≤ fI h0 1) → (SAr (gI h0 71) x8.toInt x7.toInt) → ((5 - x8.toInt).toNat) < m10 → uRun oX12_pullsInAll (uCall Mt (d + 0)) Q 4 ([some (.inr (.inr (some 69))), some (.inl x7), some (.inl x8)], [], h0, kc, ks) := by
    intro m10
    induction m10 with
    | zero => intro x7 x8 iv13 px12 mm14; omega
    | succ m10 ih11 =>
      intro x7 x8 iv13 px12 mm14
      refine ur_ldI rfl rfl ?_
      refine ur_ldA rfl rfl ?_
      refine ur_get rfl hc2 p4 ?_
      have z15 := any_r x8
      have z16 := any_r f3
      refine ur_if2 rfl (fun c17 => ?_) (fun c17 => ?_)
      · have t18 := le_to c17
        refine ur_ldI rfl rfl ?_
        exact ur_ret rfl rfl (hQ _ ⟨_, rfl, ⟨SA_e px12 (by omega) rfl, by omega⟩⟩ )
      · have t19 := le_no c17
        refine ur_ldI rfl rfl ?_
        refine ur_ldA rfl rfl ?_
        refine ur_get rfl hc2 (mf_3 hO0 hc2) ?_
        refine ur_ldI rfl rfl ?_
        obtain ⟨xs21, hc20, hn22, he23⟩ := hO0.int (hO0.fix 71 (by decide) rfl)
        refine ur_aldV rfl hc20 hn22 (by omega) (fun x24 hx25 => ?_)
        have t26 := gI_of (j := x8) hc20 hx25
        have t27 : 0 ≤ x24.toInt ∧ x24.toInt ≤ 60 := he23 _ _ hx25
        have t28 := pre0 x8.toInt (by omega) (by omega)
        refine ur_binV rfl (fun x29 e30 => ?_)
        have z31 := any_r x7
        have z32 := any_r x24
        have t33 := ti_add e30 (by omega) (by omega)
        refine ur_svIk [some (.inr (.inr (some 69))), some (.inl x29), some (.inl x8)] rfl rfl ?_
        refine ur_incV (fun z => [some (.inr (.inr (some 69))), some (.inl x29), some (.inl z)]) rfl rfl (fun _ => rfl) (fun x34 e35 => ?_)
        have t36 := ti_add e35 (by omega) (by omega)
        refine ur_go rfl ?_
        have z37 := any_r x29
        have z38 := any_r x34
        exact ih11 x29 x34 (by omega) (SA_s (p := x24.toInt) px12 (by omega) (by omega) (by omega)) (by omega)
  exact L9 _ 0 0 (by omega) (SA_0 (by omega) (by omega)) (Nat.lt_succ_self _)
end SKY
