/-! JUDGE AND BEST: swx -/
section WSWX
/-! THE WORTH OF SETS: three longs of roots -/
/-- how many of the first n bits are set, as a count of days -/
theorem nb_cq {x : Nat} {P : Int → Prop} {lo : Int} (n : Nat) (h : ∀ j : Nat, j < n → (x.testBit j = true ↔ P (lo + (j : Int)))) : (nb x n : Int) = cq P lo (lo + (n : Int)) := by
  induction n with
  | zero => rw [cq_z (by omega)]; rfl
  | succ n ih =>
    have i := ih (fun j hj => h j (by omega))
    have k := h n (by omega)
    show ((nb x n + (x.testBit n).toNat : Nat) : Int) = _
    by_cases p : x.testBit n = true
    · rw [cq_y (m := lo + (n : Int)) (by omega) (k.mp p) (by omega), ← i, p]
      rfl
    · rw [cq_n (m := lo + (n : Int)) (by omega) (fun q => p (k.mpr q)) (by omega), ← i, Bool.not_eq_true _ |>.mp p]
      rfl
theorem nb_c {x y : Nat} (n : Nat) (h : ∀ j : Nat, j < n → x.testBit j = y.testBit j) : nb x n = nb y n := by
  induction n with
  | zero => rfl
  | succ n ih =>
    show nb x n + (x.testBit n).toNat = nb y n + (y.testBit n).toNat
    rw [ih (fun j hj => h j (by omega)), h n (by omega)]
theorem tb_t {y : Int64} {j : Nat} : tb y (j : Int) ↔ (nuJ y).testBit j = true := by
  unfold tb nuJ
  rw [Int.toNat_natCast]
  rfl
theorem bb_t {x : Int32} {j : Nat} : bb x (j : Int) ↔ (nuI x).testBit j = true := by
  unfold bb nuI
  rw [Int.toNat_natCast]
  rfl
/-- what a long holds: its bits -/
def BOr (y : Int64) (P : Int → Prop) : Prop := ∀ j : Int, 0 ≤ j → j < 64 → (tb y j ↔ P j)
theorem BOr.z {P : Int → Prop} (n : ∀ j, ¬ P j) : BOr 0 P := fun j j0 j1 => ⟨fun q => by
  have q : (0#64).getLsbD j.toNat = true := q
  rw [BitVec.getLsbD_zero] at q
  exact absurd q (by decide), fun q => absurd q (n j)⟩
theorem BOr.c {y : Int64} {P P' : Int → Prop} (H : BOr y P) (e : ∀ j, 0 ≤ j → j < 64 → (P j ↔ P' j)) : BOr y P' := fun j j0 j1 => (H j j0 j1).trans (e j j0 j1)
theorem BOr.o {y g z : Int64} {P P' : Int → Prop} (H : BOr y P) (e : y ||| g = z) (p : ∀ j, 0 ≤ j → j < 64 → (P' j ↔ P j ∨ tb g j)) : BOr z P' := fun j j0 j1 => by
  rw [p j j0 j1, ← H j j0 j1, ← e]
  unfold tb
  rw [Int64.toBitVec_or, BitVec.getLsbD_or, Bool.or_eq_true]
theorem BOr.n {y : Int64} {P : Int → Prop} {lo : Int} {Q : Int → Prop} (H : BOr y P) (e : ∀ j, 0 ≤ j → j < 64 → (P j ↔ Q (lo + j))) : (nb (nuJ y) 64 : Int) = cq Q lo (lo + 64) := nb_cq 64 (fun j hj => by
  rw [← tb_t, H (j : Int) (by omega) (by omega), e (j : Int) (by omega) (by omega)])
/-- counts next to one another -/
theorem cq_ap {P : Int → Prop} {lo a b : Int} (h : lo ≤ a) (hb : a ≤ b) : cq P lo b = cq P lo a + cq P a b := by
  obtain ⟨n, rfl⟩ : ∃ n : Nat, b = a + (n : Int) := ⟨(b - a).toNat, by omega⟩
  clear hb
  induction n with
  | zero => rw [cq_z (lo := a) (by omega)]; rw [show a + ((0 : Nat) : Int) = a by omega, Int.add_zero]
  | succ n ih =>
    by_cases p : P (a + (n : Int))
    · rw [cq_y (lo := lo) (m := a + (n : Int)) (by omega) p (by omega), cq_y (lo := a) (m := a + (n : Int)) (by omega) p (by omega), ih, Int.add_assoc]
    · rw [cq_n (lo := lo) (m := a + (n : Int)) (by omega) p (by omega), cq_n (lo := a) (m := a + (n : Int)) (by omega) p (by omega), ih]
/-- bit j of the roots of comet i: three longs each -/
def BTz (h : aH) (j i : Int) : Prop := tb (gL h 45 (3 * i + j / 64)) (j % 64)
/-- long k of the roots of the comets below i of a set -/
def BSk (h : aH) (S : Int32) (i k j : Int) : Prop := ∃ c : Int, (0 ≤ c ∧ c < i) ∧ bt S c = 1 ∧ tb (gL h 45 (3 * c + k)) j
theorem BSk.z {h : aH} {S : Int32} {i k j : Int} (e : i ≤ 0) : ¬ BSk h S i k j := fun ⟨c, r, _⟩ => by omega
theorem BSk.y {h : aH} {S : Int32} {i i' k j : Int} (b : bt S i = 1) (e : i' = i + 1) (i0 : 0 ≤ i) {g : Int64} (eg : gL h 45 (3 * i + k) = g) : BSk h S i' k j ↔ BSk h S i k j ∨ tb g j := by
  constructor
  · rintro ⟨c, r, q, t⟩
    by_cases l : c < i
    · exact Or.inl ⟨c, ⟨r.1, l⟩, q, t⟩
    · obtain rfl : c = i := by omega
      rw [eg] at t
      exact Or.inr t
  · rintro (⟨c, r, q, t⟩ | t)
    · exact ⟨c, ⟨r.1, by omega⟩, q, t⟩
    · exact ⟨i, ⟨i0, by omega⟩, b, by rw [eg]; exact t⟩
theorem BSk.n {h : aH} {S : Int32} {i i' k j : Int} (b : ¬ bt S i = 1) (e : i' = i + 1) : BSk h S i' k j ↔ BSk h S i k j := by
  constructor
  · rintro ⟨c, r, q, t⟩
    refine ⟨c, ⟨r.1, ?_⟩, q, t⟩
    by_cases l : c < i
    · exact l
    · obtain rfl : c = i := by omega
      exact absurd q b
  · rintro ⟨c, r, q, t⟩
    exact ⟨c, ⟨r.1, by omega⟩, q, t⟩
theorem BSk.j {h : aH} {S : Int32} {k j : Int} (j0 : 0 ≤ j) (j1 : j < 64) : BSk h S 12 k j ↔ ∃ c : Int, (0 ≤ c ∧ c < 12) ∧ bt S c = 1 ∧ BTz h (64 * k + j) c := by
  have e1 : (64 * k + j) / 64 = k := by omega
  have e2 : (64 * k + j) % 64 = j := by omega
  unfold BSk BTz
  rw [e1, e2]
/-- the three longs' bits, counted -/
theorem BSk.w {h : aH} {S : Int32} {y0 y1 y2 : Int64} (h0 : BOr y0 (BSk h S 12 0)) (h1 : BOr y1 (BSk h S 12 1)) (h2 : BOr y2 (BSk h S 12 2)) : (nb (nuJ y0) 64 : Int) + nb (nuJ y1) 64 + nb (nuJ y2) 64 = cq (fun j => ∃ c : Int, (0 ≤ c ∧ c < 12) ∧ bt S c = 1 ∧ BTz h j c) 0 192 := by
  have a0 := h0.n (lo := 0) (Q := fun j => ∃ c : Int, (0 ≤ c ∧ c < 12) ∧ bt S c = 1 ∧ BTz h j c) (fun j j0 j1 => by
    rw [BSk.j j0 j1, show 64 * (0 : Int) + j = 0 + j by omega])
  have a1 := h1.n (lo := 64) (Q := fun j => ∃ c : Int, (0 ≤ c ∧ c < 12) ∧ bt S c = 1 ∧ BTz h j c) (fun j j0 j1 => by
    rw [BSk.j j0 j1, show 64 * (1 : Int) + j = 64 + j by omega])
  have a2 := h2.n (lo := 128) (Q := fun j => ∃ c : Int, (0 ≤ c ∧ c < 12) ∧ bt S c = 1 ∧ BTz h j c) (fun j j0 j1 => by
    rw [BSk.j j0 j1, show 64 * (2 : Int) + j = 128 + j by omega])
  rw [cq_ap (lo := 0) (a := 64) (b := 192) (by decide) (by decide), cq_ap (lo := 64) (a := 128) (b := 192) (by decide) (by decide)]
  rw [show (0 : Int) + 64 = 64 from rfl] at a0
  rw [show (64 : Int) + 64 = 128 from rfl] at a1
  rw [show (128 : Int) + 64 = 192 from rfl] at a2
  rw [a0, a1, a2, Int.add_assoc]
/-- five for each comet of a set -/
theorem smW_b {S : Int32} {M : Int → Int} (n : Nat) (h : n ≤ 32) : smW S M n = 5 * (nb (nuI S) n : Int) + smW S (fun c => M c - 5) n := by
  induction n with
  | zero => rfl
  | succ n ih =>
    have i := ih (by omega)
    have k := bt_bb (s := S) (i := (n : Int)) ⟨by omega, by omega⟩
    rw [bb_t] at k
    have en : nb (nuI S) (n + 1) = nb (nuI S) n + ((nuI S).testBit n).toNat := rfl
    by_cases p : bt S (n : Int) = 1
    · rw [smW_y p, smW_y p, en, k.mp p]
      have : (true).toNat = 1 := rfl
      rw [this]
      show _ + (5 + M (n : Int)) = 5 * ((nb (nuI S) n + 1 : Nat) : Int) + (_ + (5 + (M (n : Int) - 5)))
      omega
    · rw [smW_n p, smW_n p, en, Bool.not_eq_true _ |>.mp (fun q => p (k.mpr q))]
      show _ = 5 * ((nb (nuI S) n + 0 : Nat) : Int) + _
      omega
/-- the bits of a small set are its first twelve -/
theorem nb_12 {S : Int32} (h : 0 ≤ S.toInt ∧ S.toInt ≤ 4095) : nb (nuI S) 32 = nb (nuI S) 12 := nb_ge (nuI S) 12 (by
  rw [nuI_t h.1]
  omega) 20
/-- the worth, as the class reckons it -/
theorem WVx.o {h : aH} {S : Int32} {y0 y1 y2 : Int64} {b n0 n1 n2 u w : Int} (hS : 0 ≤ S.toInt ∧ S.toInt ≤ 4095) (eb : b = (nb (nuI S) 32 : Int)) (h0 : BOr y0 (BSk h S 12 0)) (h1 : BOr y1 (BSk h S 12 1)) (h2 : BOr y2 (BSk h S 12 2)) (e0 : n0 = (nb (nuJ y0) 64 : Int)) (e1 : n1 = (nb (nuJ y1) 64 : Int)) (e2 : n2 = (nb (nuJ y2) 64 : Int)) (eu : u = -5 * b - smW S (fun c => gI h 46 c - 5) 12) (ew : w = u + 3 * (n0 + n1 + n2)) : w = WVx (fun j c => BTz h j c) (fun c => gI h 46 c) 192 S := by
  have k := BSk.w h0 h1 h2
  have m := smW_b (S := S) (M := fun c => gI h 46 c) 12 (by decide)
  rw [nb_12 hS] at eb
  show w = 3 * cq (fun j => ∃ c : Int, (0 ≤ c ∧ c < 12) ∧ bt S c = 1 ∧ BTz h j c) 0 192 - smW S (fun c => gI h 46 c) 12
  rw [ew, eu, eb, e0, e1, e2, k, m]
  omega
/-- the sum goes on -/
theorem smW_s {S : Int32} {M : Int → Int} {i i' m : Int} (y : bt S i = 1) (i0 : 0 ≤ i) (e : i' = i + 1) (em : M i = m) : smW S M i'.toNat = smW S M i.toNat + (5 + m) := by
  have k : ((i.toNat : Nat) : Int) = i := by omega
  rw [show i'.toNat = i.toNat + 1 by omega, smW_y (by rw [k]; exact y), k, em]
theorem smW_k {S : Int32} {M : Int → Int} {i i' : Int} (n : ¬ bt S i = 1) (i0 : 0 ≤ i) (e : i' = i + 1) : smW S M i'.toNat = smW S M i.toNat := by
  have k : ((i.toNat : Nat) : Int) = i := by omega
  rw [show i'.toNat = i.toNat + 1 by omega, smW_n (by rw [k]; exact n)]
/-- a word that fits a comet of a set -/
def WRh (h : aH) (S : Int32) (w : Int) : Prop := gI h 96 w ≠ 3 ∧ ∃ c : Int, (0 ≤ c ∧ c ≤ 31) ∧ bb (gV h 105 w) c ∧ bb S c
theorem WRh.n {h : aH} {S g z : Int32} {w : Int} (e : g &&& S = z) (eg : gV h 105 w = g) (z0 : z.toInt = 0) : ¬ WRh h S w := by
  rintro ⟨_, c, r, q⟩
  rw [eg] at q
  exact (bb_and e).mp z0 c r.1 r.2 q
theorem WRh.y {h : aH} {S g z : Int32} {w : Int} (e : g &&& S = z) (eg : gV h 105 w = g) (z0 : z.toInt ≠ 0) (k : gI h 96 w ≠ 3) : WRh h S w := by
  refine ⟨k, Classical.byContradiction (fun n => z0 ((bb_and e).mpr (fun c c0 c1 q => n ⟨c, ⟨c0, c1⟩, ?_⟩)))⟩
  rw [eg]
  exact q
/-- two to the k -/
def p2 (k : Int) : Int := ((2 ^ k.toNat : Nat) : Int)
theorem p2_r {k : Int} (h : 0 ≤ k ∧ k ≤ 12) : 1 ≤ p2 k ∧ p2 k ≤ 4096 ∧ (k ≤ 6 → p2 k ≤ 64) := by
  have d : ∀ n : Nat, n < 13 → 1 ≤ 2 ^ n ∧ 2 ^ n ≤ 4096 ∧ (n ≤ 6 → 2 ^ n ≤ 64) := by decide
  have q := d k.toNat (by omega)
  unfold p2
  refine ⟨by omega, by omega, fun l => ?_⟩
  have := q.2.2 (by omega)
  omega
theorem shl_p {c z : Int32} (e : (1 : Int32) <<< (c &&& 31) = z) (h : 0 ≤ c.toInt ∧ c.toInt ≤ 12) : z.toInt = p2 c.toInt := by
  have k : ∀ n : Nat, n < 13 → (Int32.ofNat n).toInt = (n : Int) ∧ ((1 : Int32) <<< (Int32.ofNat n &&& 31)).toInt = ((2 ^ n : Nat) : Int) := by decide +kernel
  obtain ⟨k1, k2⟩ := k c.toInt.toNat (by omega)
  have ey : Int32.ofNat c.toInt.toNat = c := Int32.toInt_inj.mp (by rw [k1]; omega)
  rw [ey] at k2
  rw [← e]
  exact k2
theorem bt_lt {S : Int32} {c k : Int} (h : 0 ≤ S.toInt ∧ S.toInt < p2 k) (c0 : 0 ≤ c ∧ c ≤ 31) (b : bt S c = 1) : c < k := by
  rcases Int.lt_or_le c k with l | l
  · exact l
  · exfalso
    have q := (bt_bb c0).mp b
    rw [show c = ((c.toNat : Nat) : Int) by omega, bb_t] at q
    have u : nuI S < 2 ^ k.toNat := by
      have h2 := h.2
      unfold p2 at h2
      rw [nuI_t h.1]
      omega
    have v : nuI S < 2 ^ c.toNat := Nat.lt_of_lt_of_le u (Nat.pow_le_pow_right (by decide) (by omega))
    rw [Nat.testBit_lt_two_pow v] at q
    exact absurd q (by decide)
/-- how many comets a set has -/
def nbi (x : Int) : Nat := nb x.toNat 32
theorem nbi_e {S : Int32} (h : 0 ≤ S.toInt) : nbi S.toInt = nb (nuI S) 32 := by
  unfold nbi
  rw [nuI_t h]
/-- the best of the first sets: more worth, or as much with fewer comets -/
noncomputable def bsF (V : Int → Int) : Nat → Int × Int
  | 0 => (0, 0)
  | n + 1 => @ite (Int × Int) ((bsF V n).2 < V ((n : Int) + 1) ∨ V ((n : Int) + 1) = (bsF V n).2 ∧ nbi ((n : Int) + 1) < nbi (bsF V n).1) (Classical.propDecidable _) ((n : Int) + 1, V ((n : Int) + 1)) (bsF V n)
theorem bsF_y {V : Int → Int} {k k' b w v : Int} (H : bsF V k.toNat = (b, w)) (hk : 0 ≤ k) (e : k' = k + 1) (ev : v = V k') (t : w < v ∨ v = w ∧ nbi k' < nbi b) : bsF V k'.toNat = (k', v) := by
  have e1 : k'.toNat = k.toNat + 1 := by omega
  have e2 : ((k.toNat : Nat) : Int) + 1 = k' := by omega
  rw [e1]
  show @ite (Int × Int) ((bsF V k.toNat).2 < V ((k.toNat : Int) + 1) ∨ V ((k.toNat : Int) + 1) = (bsF V k.toNat).2 ∧ nbi ((k.toNat : Int) + 1) < nbi (bsF V k.toNat).1) (Classical.propDecidable _) ((k.toNat : Int) + 1, V ((k.toNat : Int) + 1)) (bsF V k.toNat) = _
  rw [e2, H, ← ev, if_pos t]
theorem bsF_n {V : Int → Int} {k k' b w v : Int} (H : bsF V k.toNat = (b, w)) (hk : 0 ≤ k) (e : k' = k + 1) (ev : v = V k') (t : ¬ (w < v ∨ v = w ∧ nbi k' < nbi b)) : bsF V k'.toNat = (b, w) := by
  have e1 : k'.toNat = k.toNat + 1 := by omega
  have e2 : ((k.toNat : Nat) : Int) + 1 = k' := by omega
  rw [e1]
  show @ite (Int × Int) ((bsF V k.toNat).2 < V ((k.toNat : Int) + 1) ∨ V ((k.toNat : Int) + 1) = (bsF V k.toNat).2 ∧ nbi ((k.toNat : Int) + 1) < nbi (bsF V k.toNat).1) (Classical.propDecidable _) ((k.toNat : Int) + 1, V ((k.toNat : Int) + 1)) (bsF V k.toNat) = _
  rw [e2, H, ← ev, if_neg t]
theorem bsF_c {V U : Int → Int} (n : Nat) (e : ∀ k : Int, 1 ≤ k → k ≤ (n : Int) → V k = U k) : bsF V n = bsF U n := by
  induction n with
  | zero => rfl
  | succ n ih =>
    have i := ih (fun k k0 k1 => e k k0 (by omega))
    have q := e ((n : Int) + 1) (by omega) (by omega)
    show @ite (Int × Int) _ (Classical.propDecidable _) _ _ = @ite (Int × Int) _ (Classical.propDecidable _) _ _
    rw [i, q]
/-- the worth of set k: the class -/
noncomputable def VCx (h : aH) (k : Int) : Int := WVx (fun j c => BTz h j c) (fun c => gI h 46 c) 192 (Int32.ofInt k)
theorem VCx_e {h : aH} {S : Int32} {v : Int} (e : v = WVx (fun j c => BTz h j c) (fun c => gI h 46 c) 192 S) : v = VCx h S.toInt := by
  unfold VCx
  rw [Int32.ofInt_toInt]
  exact e
/-- .. the reference -/
noncomputable def VRx (h : aH) (k : Int) : Int := 3 * cq (WRh h (Int32.ofInt k)) 0 (fI h 38) - smW (Int32.ofInt k) (fun c => gI h 106 c) (fI h 4).toNat
theorem VRx_e {h : aH} {S : Int32} {v : Int} (e : v = 3 * cq (WRh h S) 0 (fI h 38) - smW S (fun c => gI h 106 c) (fI h 4).toNat) : v = VRx h S.toInt := by
  unfold VRx
  rw [Int32.ofInt_toInt]
  exact e
theorem bsF_v {V : Int → Int} (h0 : V 0 = 0) (n : Nat) : (bsF V n).2 = V (bsF V n).1 := by
  induction n with
  | zero => exact h0.symm
  | succ n ih =>
    show (@ite (Int × Int) ((bsF V n).2 < V ((n : Int) + 1) ∨ V ((n : Int) + 1) = (bsF V n).2 ∧ nbi ((n : Int) + 1) < nbi (bsF V n).1) (Classical.propDecidable _) ((n : Int) + 1, V ((n : Int) + 1)) (bsF V n)).2 = V (@ite (Int × Int) ((bsF V n).2 < V ((n : Int) + 1) ∨ V ((n : Int) + 1) = (bsF V n).2 ∧ nbi ((n : Int) + 1) < nbi (bsF V n).1) (Classical.propDecidable _) ((n : Int) + 1, V ((n : Int) + 1)) (bsF V n)).1
    by_cases q : (bsF V n).2 < V ((n : Int) + 1) ∨ V ((n : Int) + 1) = (bsF V n).2 ∧ nbi ((n : Int) + 1) < nbi (bsF V n).1
    · rw [if_pos q]
    · rw [if_neg q]
      exact ih
theorem smW_x {S : Int32} {M : Int → Int} {n : Nat} (m : Nat) (h : n ≤ m) (z : ∀ c : Nat, n ≤ c → c < m → ¬ bt S (c : Int) = 1) : smW S M m = smW S M n := by
  induction m with
  | zero =>
    obtain rfl : n = 0 := by omega
    rfl
  | succ m ih =>
    by_cases e : n = m + 1
    · rw [e]
    · rw [smW_n (z m (by omega) (by omega))]
      exact ih (by omega) (fun c c0 c1 => z c c0 (by omega))
/-- which roots fit: the reference -/
def RRm (ls l1 : List (List (Int × Int) × List (Int × Int))) (h : aH) (M : Nat → List (List (Int × Int) × List (Int × Int))) (j c : Int) : Prop := gI h 96 j ≠ 3 ∧ FCm ls l1 h M j c
/-- the worth that the reference reckons of its bits, of the start -/
theorem VRx_w {ls l1 : List (List (Int × Int) × List (Int × Int))} {h0 h : aH} {M : Nat → List (List (Int × Int) × List (Int × Int))} {A S : Int32} (FB : FBm ls l1 h0 h M A (fI h0 38)) (FM : FMm ls l1 h0 h M A (fI h0 4)) (n38 : fI h 38 = fI h0 38) (n4 : fI h 4 = fI h0 4) (r4 : 0 ≤ fI h0 4 ∧ fI h0 4 ≤ 12) (e96 : gI h 96 = gI h0 96) (sub : ∀ c : Int, 0 ≤ c → c ≤ 31 → bt S c = 1 → bt A c = 1 ∧ c < fI h0 4) : 3 * cq (WRh h S) 0 (fI h 38) - smW S (fun c => gI h 106 c) (fI h 4).toNat = WVx (RRm ls l1 h0 M) (fun c => cq (MSm ls l1 h0 M c) (-60) 61) (fI h0 38) S := by
  have e1 : cq (WRh h S) 0 (fI h 38) = cq (fun j => ∃ c : Int, (0 ≤ c ∧ c < 12) ∧ bt S c = 1 ∧ RRm ls l1 h0 M j c) 0 (fI h0 38) := by
    rw [n38]
    refine cq_c (fun w w0 w1 => ?_)
    unfold WRh RRm
    rw [e96]
    constructor
    · rintro ⟨k, c, r, g, b⟩
      have q := (FB w w0 w1 k c r.1 r.2).mp g
      exact ⟨c, ⟨r.1, by omega⟩, (bt_bb r).mpr b, k, q.2.2⟩
    · rintro ⟨c, r, b, k, f⟩
      have s := sub c r.1 (by omega) b
      exact ⟨k, c, ⟨r.1, by omega⟩, (FB w w0 w1 k c r.1 (by omega)).mpr ⟨s.2, s.1, f⟩, (bt_bb ⟨r.1, by omega⟩).mp b⟩
  have e2 : smW S (fun c => gI h 106 c) (fI h 4).toNat = smW S (fun c => cq (MSm ls l1 h0 M c) (-60) 61) 12 := by
    rw [n4, smW_x (S := S) (M := fun c => cq (MSm ls l1 h0 M c) (-60) 61) (n := (fI h0 4).toNat) 12 (by omega) (fun c c0 c1 b => by
      have s := sub (c : Int) (by omega) (by omega) b
      omega)]
    exact smW_c _ (fun c hc b => (FM (c : Int) (by omega) (by omega)).2 (sub (c : Int) (by omega) (by omega) b).1)
  unfold WVx
  rw [e1, e2]
theorem shr_0 {a c z : Int32} (e : a >>> (c &&& 31) = z) (h : 0 ≤ c.toInt ∧ c.toInt ≤ 12) (a0 : 0 ≤ a.toInt) : z.toInt = 0 ↔ a.toInt < p2 c.toInt := by
  have k : ∀ n : Nat, n < 13 → (Int32.ofNat n).toInt = (n : Int) ∧ ((Int32.ofNat n &&& 31).toBitVec.smod 32#32).toNat = n := by decide +kernel
  obtain ⟨k1, k2⟩ := k c.toInt.toNat (by omega)
  have ey : Int32.ofNat c.toInt.toNat = c := Int32.toInt_inj.mp (by rw [k1]; omega)
  rw [ey] at k2
  have q : (a >>> (c &&& 31)).toBitVec = a.toBitVec.sshiftRight ((c &&& 31).toBitVec.smod 32#32).toNat := rfl
  have d : z.toInt = a.toInt / p2 c.toInt := by
    rw [← e]
    show (a >>> (c &&& 31)).toBitVec.toInt = _
    rw [q, k2, BitVec.toInt_sshiftRight, Int.shiftRight_eq_div_pow]
    rfl
  have p : 0 < p2 c.toInt := by
    have := p2_r h
    omega
  rw [d]
  constructor
  · intro u
    have t := Int.lt_ediv_add_one_mul_self a.toInt p
    rw [u, Int.zero_add, Int.one_mul] at t
    exact t
  · intro u
    exact Int.ediv_eq_zero_of_lt a0 u
theorem bt_all {A : Int32} {n c : Int} (e : A.toInt = p2 n - 1) (h : 0 ≤ n ∧ n ≤ 12) (c0 : 0 ≤ c) (l : c < n) : bt A c = 1 := by
  have pr := p2_r h
  have ea : nuI A = 2 ^ n.toNat - 1 := by
    rw [nuI_t (by omega), e]
    unfold p2
    omega
  have q : bb A ((c.toNat : Nat) : Int) := by
    rw [bb_t, ea, Nat.testBit_two_pow_sub_one]
    exact decide_eq_true (by omega)
  rw [show ((c.toNat : Nat) : Int) = c by omega] at q
  exact (bt_bb ⟨c0, by omega⟩).mpr q
/-- the worth of set k, of the start: the reference -/
noncomputable def VWx (ls l1 : List (List (Int × Int) × List (Int × Int))) (h : aH) (M : Nat → List (List (Int × Int) × List (Int × Int))) (k : Int) : Int := WVx (RRm ls l1 h M) (fun c => cq (MSm ls l1 h M c) (-60) 61) (fI h 38) (Int32.ofInt k)
theorem VWx_e {ls l1 : List (List (Int × Int) × List (Int × Int))} {h : aH} {M : Nat → List (List (Int × Int) × List (Int × Int))} {S : Int32} {v : Int} (e : v = WVx (RRm ls l1 h M) (fun c => cq (MSm ls l1 h M c) (-60) 61) (fI h 38) S) : v = VWx ls l1 h M S.toInt := by
  unfold VWx
  rw [Int32.ofInt_toInt]
  exact e

end WSWX
