/-! JUDGE AND BEST: sgw -/
section WSGW
/-! THE WORTH OF SETS: bits, sure watches -/
/-- bit c of an int -/
def bb (x : Int32) (c : Int) : Prop := x.toBitVec.getLsbD c.toNat = true
theorem bb_0 {c : Int} : ¬ bb 0 c := fun h => by
  have h : (0#32).getLsbD c.toNat = true := h
  rw [BitVec.getLsbD_zero] at h
  exact absurd h (by decide)
theorem bb_or {x b : Int32} {s t : Int} (hb : b.toBitVec = BitVec.twoPow 32 s.toNat) (hs : 0 ≤ s ∧ s ≤ 31) (ht : 0 ≤ t ∧ t ≤ 31) : bb (x ||| b) t ↔ bb x t ∨ t = s := by
  unfold bb
  rw [Int32.toBitVec_or, BitVec.getLsbD_or, hb, BitVec.getLsbD_twoPow]
  simp only [Bool.or_eq_true, Bool.and_eq_true, decide_eq_true_eq]
  have e : (s.toNat < 32 ∧ s.toNat = t.toNat) ↔ t = s := by omega
  rw [e]
theorem bb_and {x y z : Int32} (e : x &&& y = z) : z.toInt = 0 ↔ ∀ c : Int, 0 ≤ c → c ≤ 31 → ¬ (bb x c ∧ bb y c) := by
  have g : ∀ n : Nat, z.toBitVec.getLsbD n = (x.toBitVec.getLsbD n && y.toBitVec.getLsbD n) := fun n => by
    rw [← e, Int32.toBitVec_and, BitVec.getLsbD_and]
  constructor
  · intro h c c0 c1 k
    have ez : z = 0 := Int32.toInt_inj.mp (by rw [h]; rfl)
    have q := g c.toNat
    rw [k.1, k.2, ez] at q
    have q : (0#32).getLsbD c.toNat = true := q
    rw [BitVec.getLsbD_zero] at q
    exact absurd q (by decide)
  · intro h
    have ez : z = 0 := Int32.toBitVec_inj.mp (BitVec.eq_of_getLsbD_eq (fun i hi => by
      rw [g i]
      show _ = (0#32).getLsbD i
      rw [BitVec.getLsbD_zero]
      have k := h (i : Int) (by omega) (by omega)
      unfold bb at k
      rw [Int.toNat_natCast] at k
      cases p : x.toBitVec.getLsbD i with
      | false => rfl
      | true =>
        cases q : y.toBitVec.getLsbD i with
        | false => rfl
        | true => exact absurd ⟨p, q⟩ k))
    rw [ez]
    rfl
theorem shl_1 {c z : Int32} (e : (1 : Int32) <<< (c &&& 31) = z) (h : 0 ≤ c.toInt ∧ c.toInt ≤ 31) : z.toBitVec = BitVec.twoPow 32 c.toInt.toNat := by
  have k : ∀ n : Nat, n < 32 → (Int32.ofNat n).toInt = (n : Int) ∧ ((1 : Int32) <<< (Int32.ofNat n &&& 31)).toBitVec = BitVec.twoPow 32 n := by decide +kernel
  obtain ⟨k1, k2⟩ := k c.toInt.toNat (by omega)
  have ey : Int32.ofNat c.toInt.toNat = c := Int32.toInt_inj.mp (by rw [k1]; omega)
  rw [ey] at k2
  rw [← e]
  exact k2
/-- the bit that is shifted down -/
theorem bt_bb {s : Int32} {i : Int} (h : 0 ≤ i ∧ i ≤ 31) : bt s i = 1 ↔ bb s i := by
  rw [bt_eq]
  unfold bt0 bb
  have k : ∀ n : Nat, n < 32 → ((Int32.ofInt (n : Int) &&& 31).toBitVec.smod 32#32).toNat = n := by decide +kernel
  have e : (s >>> (Int32.ofInt i &&& 31)).toBitVec = s.toBitVec.sshiftRight i.toNat := by
    have q : (s >>> (Int32.ofInt i &&& 31)).toBitVec = s.toBitVec.sshiftRight ((Int32.ofInt i &&& 31).toBitVec.smod 32#32).toNat := rfl
    have r := k i.toNat (by omega)
    rw [show ((i.toNat : Nat) : Int) = i by omega] at r
    rw [q, r]
  have f : (s >>> (Int32.ofInt i &&& 31)).toBitVec.getLsbD 0 = s.toBitVec.getLsbD i.toNat := by
    rw [e, BitVec.getLsbD_sshiftRight]
    have l : i.toNat + 0 < 32 := by omega
    simp only [Nat.add_zero] at l ⊢
    rw [if_pos l]
    rfl
  rw [← f]
  generalize s >>> (Int32.ofInt i &&& 31) = u
  have a1 : (u &&& 1).toBitVec = u.toBitVec &&& 1#32 := rfl
  have a2 : (u &&& 1).toInt = (u &&& 1).toBitVec.toInt := rfl
  have a3 : u.toBitVec &&& 1#32 = if u.toBitVec.getLsbD 0 then 1#32 else 0#32 := by
    refine BitVec.eq_of_getLsbD_eq (fun j hj => ?_)
    rw [BitVec.getLsbD_and]
    cases j with
    | zero =>
      cases p : u.toBitVec.getLsbD 0 <;> rfl
    | succ j =>
      have z : (1#32).getLsbD (j + 1) = false := by
        have t : 1#32 = BitVec.twoPow 32 0 := rfl
        rw [t, BitVec.getLsbD_twoPow, decide_eq_false (show ¬ (0 = j + 1) by omega), Bool.and_false]
      rw [z, Bool.and_false]
      cases p : u.toBitVec.getLsbD 0
      · show _ = (0#32).getLsbD (j + 1)
        rw [BitVec.getLsbD_zero]
      · exact z.symm
  rw [a2, a1, a3]
  cases p : u.toBitVec.getLsbD 0
  · exact ⟨fun q => absurd q (by decide), fun q => absurd q (by decide)⟩
  · exact ⟨fun _ => rfl, fun _ => rfl⟩
/-- a bit of a long that is shifted down -/
theorem tb_sh {y w v : Int64} {s c : Int32} (e1 : y >>> (s.toInt64 &&& 63) = w) (e2 : w &&& 1 = v) (e3 : lg_cmp v 0 = c) (hs : 0 ≤ s.toInt ∧ s.toInt ≤ 63) : c.toInt = 0 ↔ ¬ tb y s.toInt := by
  have k : ∀ n : Nat, n < 64 → (Int32.ofNat n).toInt = (n : Int) ∧ (((Int32.ofNat n).toInt64 &&& 63).toBitVec.smod 64#64).toNat = n := by decide +kernel
  obtain ⟨k1, k2⟩ := k s.toInt.toNat (by omega)
  have es : Int32.ofNat s.toInt.toNat = s := Int32.toInt_inj.mp (by rw [k1]; omega)
  rw [es] at k2
  have f : tb w 0 ↔ tb y s.toInt := by
    unfold tb
    have e : w.toBitVec = y.toBitVec.sshiftRight s.toInt.toNat := by
      rw [← e1]
      have q : (y >>> (s.toInt64 &&& 63)).toBitVec = y.toBitVec.sshiftRight ((s.toInt64 &&& 63).toBitVec.smod 64#64).toNat := rfl
      rw [q, k2]
    rw [e, show (0 : Int).toNat = 0 from rfl, BitVec.getLsbD_sshiftRight]
    have l : s.toInt.toNat + 0 < 64 := by omega
    simp only [Nat.add_zero] at l ⊢
    rw [if_pos l]
    exact Iff.rfl
  rw [← f]
  exact lcz e2 e3 (by decide +kernel) ⟨Int.le_refl 0, by decide⟩
/-- five days and more of a watch, within the window of the return -/
def SW5 (P : Int → Prop) (a b t : Int) : Prop := ∃ lo hi, (a ≤ lo ∧ t - 120 ≤ lo ∧ (lo = a ∨ lo = t - 120)) ∧ (hi ≤ b ∧ hi ≤ t + 120 ∧ (hi = b ∨ hi = t + 120)) ∧ 5 ≤ cq P lo (hi + 1)
theorem SW5.y {P : Int → Prop} {a b t lo hi m : Int} (l : a ≤ lo ∧ t - 120 ≤ lo ∧ (lo = a ∨ lo = t - 120)) (r : hi ≤ b ∧ hi ≤ t + 120 ∧ (hi = b ∨ hi = t + 120)) (c : 5 ≤ cq P lo m) (h : m ≤ hi + 1) (h0 : lo ≤ m) : SW5 P a b t := ⟨lo, hi, l, r, by
  have := cq_le (P := P) h0 h
  omega⟩
theorem SW5.n {P : Int → Prop} {a b t lo hi m : Int} (l : a ≤ lo ∧ t - 120 ≤ lo ∧ (lo = a ∨ lo = t - 120)) (r : hi ≤ b ∧ hi ≤ t + 120 ∧ (hi = b ∨ hi = t + 120)) (c : cq P lo m ≤ 4) (h : hi < m) : ¬ SW5 P a b t := by
  rintro ⟨lo', hi', l', r', q⟩
  obtain rfl : lo' = lo := by omega
  obtain rfl : hi' = hi := by omega
  by_cases k : lo' ≤ hi' + 1
  · have := cq_le (P := P) k (show hi' + 1 ≤ m by omega)
    omega
  · rw [cq_z (by omega)] at q
    omega
theorem SW5.c {P Q : Int → Prop} {a b t : Int} (e : ∀ d, P d ↔ Q d) : SW5 P a b t ↔ SW5 Q a b t := by
  have k : ∀ lo m, cq P lo m = cq Q lo m := fun lo m => cq_c (fun d _ _ => e d)
  unfold SW5
  constructor
  · rintro ⟨lo, hi, l, r, q⟩
    exact ⟨lo, hi, l, r, by rw [← k]; exact q⟩
  · rintro ⟨lo, hi, l, r, q⟩
    exact ⟨lo, hi, l, r, by rw [k]; exact q⟩
/-- the worth: sums over the comets of a set -/
noncomputable def smW (S : Int32) (M : Int → Int) : Nat → Int
  | 0 => 0
  | n + 1 => smW S M n + @ite Int (bt S (n : Int) = 1) (Classical.propDecidable _) (5 + M (n : Int)) 0
theorem smW_y {S : Int32} {M : Int → Int} {n : Nat} (h : bt S (n : Int) = 1) : smW S M (n + 1) = smW S M n + (5 + M (n : Int)) := by
  show smW S M n + @ite Int (bt S (n : Int) = 1) (Classical.propDecidable _) (5 + M (n : Int)) 0 = _
  rw [if_pos h]
theorem smW_n {S : Int32} {M : Int → Int} {n : Nat} (h : ¬ bt S (n : Int) = 1) : smW S M (n + 1) = smW S M n := by
  show smW S M n + @ite Int (bt S (n : Int) = 1) (Classical.propDecidable _) (5 + M (n : Int)) 0 = _
  rw [if_neg h, Int.add_zero]
theorem smW_c {S : Int32} {M N : Int → Int} (n : Nat) (e : ∀ c : Nat, c < n → bt S (c : Int) = 1 → M (c : Int) = N (c : Int)) : smW S M n = smW S N n := by
  induction n with
  | zero => rfl
  | succ n ih =>
    have i := ih (fun c hc => e c (by omega))
    by_cases h : bt S (n : Int) = 1
    · rw [smW_y h, smW_y h, i, e n (by omega) h]
    · rw [smW_n h, smW_n h, i]
/-- the worth of a set, where F says which root fits which comet, M how many returns are missed -/
noncomputable def WVx (F : Int → Int → Prop) (M : Int → Int) (n : Int) (S : Int32) : Int := 3 * cq (fun j => ∃ c : Int, (0 ≤ c ∧ c < 12) ∧ bt S c = 1 ∧ F j c) 0 n - smW S M 12
theorem WVx_c {F G : Int → Int → Prop} {M N : Int → Int} {n : Int} {S : Int32} (e : ∀ j c : Int, 0 ≤ j → j < n → 0 ≤ c → c < 12 → bt S c = 1 → (F j c ↔ G j c)) (m : ∀ c : Nat, c < 12 → bt S (c : Int) = 1 → M (c : Int) = N (c : Int)) : WVx F M n S = WVx G N n S := by
  unfold WVx
  rw [smW_c 12 m, cq_c (P := fun j => ∃ c : Int, (0 ≤ c ∧ c < 12) ∧ bt S c = 1 ∧ F j c) (Q := fun j => ∃ c : Int, (0 ≤ c ∧ c < 12) ∧ bt S c = 1 ∧ G j c) (fun j j0 j1 => ⟨fun ⟨c, r, b, f⟩ => ⟨c, r, b, (e j c j0 j1 r.1 r.2 b).mp f⟩, fun ⟨c, r, b, f⟩ => ⟨c, r, b, (e j c j0 j1 r.1 r.2 b).mpr f⟩⟩)]
/-- a sure watch of a return: reference and class -/
def SWn (ls : List (List (Int × Int) × List (Int × Int))) (h : aH) (c t i : Int) : Prop := SW5 (fun d => canP ls (gI h 74 c) (gI h 76 c) (gI h 75 c) (gI h 77 c) (gI h 93 i) t d) (gI h 94 i) (gI h 95 i) t
def SWm (ls : List (List (Int × Int) × List (Int × Int))) (h : aH) (c t : Int) : Prop := ∃ i, (0 ≤ i ∧ i < fI h 34) ∧ SWn ls h c t i
def SWi (ls : List (List (Int × Int) × List (Int × Int))) (h : aH) (z : Nat) (k i : Int) : Prop := SW5 (fun d => canP ls (fO h z 2) (fO h z 4) (fO h z 3) (fO h z 5) (gI h 42 i) (cf h z k) d) (gI h 43 i) (gI h 44 i) (cf h z k)
def SWz (ls : List (List (Int × Int) × List (Int × Int))) (h : aH) (z : Nat) (k : Int) : Prop := ∃ i, (0 ≤ i ∧ i < fO h 41 6) ∧ SWi ls h z k i
/-- the count of a watch so far -/
def SWl (P : Int → Prop) (a t d n : Int) : Prop := ∃ lo, (a ≤ lo ∧ t - 120 ≤ lo ∧ (lo = a ∨ lo = t - 120)) ∧ lo ≤ d ∧ n = cq P lo d
theorem SWl.z {P : Int → Prop} {a t d n : Int} (l : a ≤ d ∧ t - 120 ≤ d ∧ (d = a ∨ d = t - 120)) (e : n = 0) : SWl P a t d n := ⟨d, l, Int.le_refl d, by rw [e, cq_z (Int.le_refl d)]⟩
theorem SWl.s {P : Int → Prop} {a t d d' n n' : Int} (H : SWl P a t d n) (e : d' = d + 1) (h : (P d ∧ n' = n + 1) ∨ (¬ P d ∧ n' = n)) : SWl P a t d' n' := by
  obtain ⟨lo, l, k, q⟩ := H
  refine ⟨lo, l, by omega, ?_⟩
  rcases h with ⟨p, h⟩ | ⟨p, h⟩
  · rw [h, q, cq_y k p e]
  · rw [h, q, cq_n k p e]
theorem SWl.y {P : Int → Prop} {a b t d n hi : Int} (H : SWl P a t d n) (r : hi ≤ b ∧ hi ≤ t + 120 ∧ (hi = b ∨ hi = t + 120)) (c : 5 ≤ n) (h : d ≤ hi + 1) : SW5 P a b t := by
  obtain ⟨lo, l, k, q⟩ := H
  exact SW5.y l r (by omega) h k
theorem SWl.n {P : Int → Prop} {a b t d n hi : Int} (H : SWl P a t d n) (r : hi ≤ b ∧ hi ≤ t + 120 ∧ (hi = b ∨ hi = t + 120)) (c : n ≤ 4) (h : hi < d) : ¬ SW5 P a b t := by
  obtain ⟨lo, l, k, q⟩ := H
  exact SW5.n l r (by omega) h
/-- which comets a word fits; what is missed of a comet: the reference -/
def FCm (ls l1 : List (List (Int × Int) × List (Int × Int))) (h : aH) (M : Nat → List (List (Int × Int) × List (Int × Int))) (w c : Int) : Prop := ¬ LRq (-60) 61 (fun k t => retV (NMh h (gI h 73 c)) (gI h 73 c) (gI h 72 c) k t) (FWm ls l1 h M w c 0)
def TDm (ls l1 : List (List (Int × Int) × List (Int × Int))) (h : aH) (M : Nat → List (List (Int × Int) × List (Int × Int))) (c t : Int) : Prop := ∃ w, (0 ≤ w ∧ w < fI h 38) ∧ FWm ls l1 h M w c 0 t
def MSm (ls l1 : List (List (Int × Int) × List (Int × Int))) (h : aH) (M : Nat → List (List (Int × Int) × List (Int × Int))) (c k : Int) : Prop := ∃ t, retV (NMh h (gI h 73 c)) (gI h 73 c) (gI h 72 c) k t ∧ 0 ≤ t ∧ SWm ls h c t ∧ ¬ TDm ls l1 h M c t
/-- the bits of a word, those of comets below k -/
def FBw (g : Int32) (S : Int32) (F : Int → Prop) (k : Int) : Prop := ∀ c : Int, 0 ≤ c → c ≤ 31 → (bb g c ↔ c < k ∧ bt S c = 1 ∧ F c)
theorem FBw.z {g S : Int32} {F : Int → Prop} {k : Int} (e : g = 0) (h : k ≤ 0) : FBw g S F k := fun c c0 c1 => by
  rw [e]
  exact ⟨fun q => absurd q bb_0, fun q => by omega⟩
theorem FBw.n {g S : Int32} {F : Int → Prop} {k k' : Int} (H : FBw g S F k) (n : ¬ (bt S k = 1 ∧ F k)) (e : k' = k + 1) : FBw g S F k' := fun c c0 c1 => by
  refine (H c c0 c1).trans ⟨fun q => ⟨by omega, q.2⟩, fun q => ⟨?_, q.2⟩⟩
  by_cases l : c < k
  · exact l
  · obtain rfl : c = k := by omega
    exact absurd q.2 n
theorem FBw.y {g g' b S : Int32} {F : Int → Prop} {k k' : Int} (H : FBw g S F k) (y : bt S k = 1 ∧ F k) (eb : b.toBitVec = BitVec.twoPow 32 k.toNat) (hk : 0 ≤ k ∧ k ≤ 31) (eg : g ||| b = g') (e : k' = k + 1) : FBw g' S F k' := fun c c0 c1 => by
  rw [← eg, bb_or eb hk ⟨c0, c1⟩, H c c0 c1]
  constructor
  · rintro (q | q)
    · exact ⟨by omega, q.2⟩
    · subst q
      exact ⟨by omega, y⟩
  · intro q
    by_cases l : c < k
    · exact Or.inl ⟨l, q.2⟩
    · exact Or.inr (by omega)
theorem FBw.e {g S : Int32} {F : Int → Prop} {k n : Int} (H : FBw g S F k) (e : n ≤ k) (h : ∀ c, n ≤ c → c < k → ¬ (bt S c = 1 ∧ F c)) : FBw g S F n := fun c c0 c1 => (H c c0 c1).trans ⟨fun q => ⟨by
  by_cases l : c < n
  · exact l
  · exact absurd q.2 (h c (by omega) q.1), q.2⟩, fun q => ⟨by omega, q.2⟩⟩
/-- what the reference finds of a story: bits of words below j -/
def FBm (ls l1 : List (List (Int × Int) × List (Int × Int))) (h0 h : aH) (M : Nat → List (List (Int × Int) × List (Int × Int))) (S : Int32) (j : Int) : Prop := ∀ w : Int, 0 ≤ w → w < j → gI h0 96 w ≠ 3 → FBw (gV h 105 w) S (FCm ls l1 h0 M w) (fI h0 4)
theorem FBm.z {ls l1 : List (List (Int × Int) × List (Int × Int))} {h0 h : aH} {M : Nat → List (List (Int × Int) × List (Int × Int))} {S : Int32} {j : Int} (e : j ≤ 0) : FBm ls l1 h0 h M S j := fun w w0 w1 => by omega
theorem FBm.e {ls l1 : List (List (Int × Int) × List (Int × Int))} {h0 h h' : aH} {M : Nat → List (List (Int × Int) × List (Int × Int))} {S : Int32} {j : Int} (H : FBm ls l1 h0 h M S j) (e : ∀ w : Int, 0 ≤ w → w < j → gV h' 105 w = gV h 105 w) : FBm ls l1 h0 h' M S j := fun w w0 w1 k => by
  rw [e w w0 w1]
  exact H w w0 w1 k
theorem FBm.s {ls l1 : List (List (Int × Int) × List (Int × Int))} {h0 h : aH} {M : Nat → List (List (Int × Int) × List (Int × Int))} {S : Int32} {j j' : Int} (H : FBm ls l1 h0 h M S j) (c : gI h0 96 j ≠ 3 → FBw (gV h 105 j) S (FCm ls l1 h0 M j) (fI h0 4)) (e : j' = j + 1) : FBm ls l1 h0 h M S j' := fun w w0 w1 k => by
  by_cases l : w < j
  · exact H w w0 l k
  · obtain rfl : w = j := by omega
    exact c k
/-- .. what is missed of comets below j -/
def FMm (ls l1 : List (List (Int × Int) × List (Int × Int))) (h0 h : aH) (M : Nat → List (List (Int × Int) × List (Int × Int))) (S : Int32) (j : Int) : Prop := ∀ c : Int, 0 ≤ c → c < j → (0 ≤ gI h 106 c ∧ gI h 106 c ≤ 121) ∧ (bt S c = 1 → gI h 106 c = cq (MSm ls l1 h0 M c) (-60) 61)
theorem FMm.z {ls l1 : List (List (Int × Int) × List (Int × Int))} {h0 h : aH} {M : Nat → List (List (Int × Int) × List (Int × Int))} {S : Int32} {j : Int} (e : j ≤ 0) : FMm ls l1 h0 h M S j := fun w w0 w1 => by omega
theorem FMm.e {ls l1 : List (List (Int × Int) × List (Int × Int))} {h0 h h' : aH} {M : Nat → List (List (Int × Int) × List (Int × Int))} {S : Int32} {j : Int} (H : FMm ls l1 h0 h M S j) (e : ∀ w : Int, 0 ≤ w → w < j → gI h' 106 w = gI h 106 w) : FMm ls l1 h0 h' M S j := fun w w0 w1 => by
  rw [e w w0 w1]
  exact H w w0 w1
theorem FMm.s {ls l1 : List (List (Int × Int) × List (Int × Int))} {h0 h : aH} {M : Nat → List (List (Int × Int) × List (Int × Int))} {S : Int32} {j j' : Int} (H : FMm ls l1 h0 h M S j) (c : (0 ≤ gI h 106 j ∧ gI h 106 j ≤ 121) ∧ (bt S j = 1 → gI h 106 j = cq (MSm ls l1 h0 M j) (-60) 61)) (e : j' = j + 1) : FMm ls l1 h0 h M S j' := fun w w0 w1 => by
  by_cases l : w < j
  · exact H w w0 l
  · obtain rfl : w = j := by omega
    exact c
theorem gV_sq {h h' : aH} {q n p : Nat} {v : Int32} {j : Int} (hl : (arI h q).length = n) (e : arI h' q = (arI h q).set p v) (hp : p < n) (hj : 0 ≤ j) : (j = (p : Int) → gV h' q j = v) ∧ (j ≠ (p : Int) → gV h' q j = gV h q j) := by
  unfold gV
  rw [e]
  constructor
  · intro c
    rw [show j.toNat = p by omega, List.getD_eq_getElem?_getD, List.getElem?_set_self (by omega)]
    rfl
  · intro c
    rw [List.getD_eq_getElem?_getD, List.getElem?_set_ne (by omega), ← List.getD_eq_getElem?_getD]
theorem sq_V {h h' : aH} {a n : Nat} {J X : Int32} (hl : (arI h a).length = n) (w : wI h h' a ((arI h a).set J.toInt.toNat X)) (hJ : 0 ≤ J.toInt ∧ J.toInt.toNat < n) : ∀ i : Int, 0 ≤ i → (i = J.toInt → gV h' a i = X) ∧ (i ≠ J.toInt → gV h' a i = gV h a i) := fun i i0 => by
  have s := gV_sq (j := i) hl w.1 hJ.2 i0
  exact ⟨fun c => s.1 (by omega), fun c => s.2 (by omega)⟩
theorem gV_f {h h' : aH} {a : Nat} (e : gI h' a = gI h a) (j : Int) : gV h' a j = gV h a j := Int32.toInt_inj.mp (congrFun e j)
theorem gV_i {h : aH} {a : Nat} {j : Int} {x : Int32} (e : gI h a j = x.toInt) : gV h a j = x := Int32.toInt_inj.mp e
theorem SWm.un {ls : List (List (Int × Int) × List (Int × Int))} {V : List Nat} {h h' : aH} {c t : Int} (hO : OK h) (hO' : OK h') (g : un V h h') (v : ∀ k ∈ [74, 75, 76, 77, 93, 94, 95, 7934], k ∉ V) : SWm ls h' c t ↔ SWm ls h c t := by
  have k : ∀ a n : Nat, a ∈ [74, 75, 76, 77, 93, 94, 95, 7934] → a < 114 → T0.getD a (999, 0) = (0, n) → scA a = false → (0, n) ∉ meM → gI h' a = gI h a := fun a n h0 h1 h2 h3 h4 => gI_fk (kd := 0) (n := n) hO g h1 h2 (by decide) h3 h4 (v a h0)
  unfold SWm SWn
  rw [fI_keep (k := 34) hO hO' g rfl (v _ (by decide)), k 74 12 (by decide) (by decide) rfl rfl (by decide), k 75 12 (by decide) (by decide) rfl rfl (by decide), k 76 12 (by decide) (by decide) rfl rfl (by decide), k 77 12 (by decide) (by decide) rfl rfl (by decide), k 93 10 (by decide) (by decide) rfl rfl (by decide), k 94 10 (by decide) (by decide) rfl rfl (by decide), k 95 10 (by decide) (by decide) rfl rfl (by decide)]
theorem TDm.un {ls l1 : List (List (Int × Int) × List (Int × Int))} {V : List Nat} {h h' : aH} {M : Nat → List (List (Int × Int) × List (Int × Int))} {c t : Int} (hO : OK h) (g : un V h h') (n : fI h' 38 = fI h 38) (er : ∀ j, 0 ≤ j → j < fI h 38 → rt h' j = rt h j) (v : ∀ k ∈ [74, 75, 76, 77, 90, 91, 92, 96, 97, 98, 99, 100, 101, 102, 103], k ∉ V) : TDm ls l1 h' M c t ↔ TDm ls l1 h M c t := by
  unfold TDm
  rw [n]
  exact ⟨fun ⟨w, r, q⟩ => ⟨w, r, by rw [FWm.e hO g (er w r.1 r.2) v] at q; exact q⟩, fun ⟨w, r, q⟩ => ⟨w, r, by rw [FWm.e hO g (er w r.1 r.2) v]; exact q⟩⟩


end WSGW
