/-! JUDGE AND BEST: swr -/
section WSWR
/-! BITS: how many of them are set -/
def nb (x : Nat) : Nat → Nat
  | 0 => 0
  | n + 1 => nb x n + (x.testBit n).toNat
theorem nb_le (x n : Nat) : nb x n ≤ n := by
  induction n with
  | zero => exact Nat.le_refl 0
  | succ n ih =>
    show nb x n + (x.testBit n).toNat ≤ n + 1
    have := Bool.toNat_le (x.testBit n)
    omega
def pc8 (b : Nat) : Nat := b % 2 + b / 2 % 2 + b / 4 % 2 + b / 8 % 2 + b / 16 % 2 + b / 32 % 2 + b / 64 % 2 + b / 128 % 2
theorem pc8_b (b : Nat) : pc8 b ≤ 8 := by
  unfold pc8
  omega
theorem bit_0 (x : Nat) : (x.testBit 0).toNat = x % 2 := by
  rw [Nat.testBit_zero]
  rcases Nat.mod_two_eq_zero_or_one x with h | h <;> rw [h] <;> rfl
theorem nb_lo (x n : Nat) : nb x (n + 1) = x % 2 + nb (x / 2) n := by
  induction n with
  | zero =>
    show 0 + (x.testBit 0).toNat = x % 2 + 0
    rw [bit_0]
    omega
  | succ n ih =>
    show nb x (n + 1) + (x.testBit (n + 1)).toNat = x % 2 + (nb (x / 2) n + ((x / 2).testBit n).toNat)
    rw [ih, Nat.testBit_succ]
    omega
theorem nb_8 (x n : Nat) : nb x (n + 8) = pc8 (x % 256) + nb (x / 256) n := by
  rw [show n + 8 = n + 7 + 1 from rfl, nb_lo, show n + 7 = n + 6 + 1 from rfl, nb_lo, show n + 6 = n + 5 + 1 from rfl, nb_lo, show n + 5 = n + 4 + 1 from rfl, nb_lo, show n + 4 = n + 3 + 1 from rfl, nb_lo, show n + 3 = n + 2 + 1 from rfl, nb_lo, show n + 2 = n + 1 + 1 from rfl, nb_lo, nb_lo, show x / 2 / 2 / 2 / 2 / 2 / 2 / 2 / 2 = x / 256 by rw [Nat.div_div_eq_div_mul, Nat.div_div_eq_div_mul, Nat.div_div_eq_div_mul, Nat.div_div_eq_div_mul, Nat.div_div_eq_div_mul, Nat.div_div_eq_div_mul, Nat.div_div_eq_div_mul]]
  have h0 : x % 256 % 2 = x % 2 := by omega
  have h1 : x % 256 / 2 % 2 = x / 2 % 2 := by omega
  have h2 : x % 256 / 4 % 2 = x / 2 / 2 % 2 := by omega
  have h3 : x % 256 / 8 % 2 = x / 2 / 2 / 2 % 2 := by rw [Nat.div_div_eq_div_mul, Nat.div_div_eq_div_mul]; omega
  have h4 : x % 256 / 16 % 2 = x / 2 / 2 / 2 / 2 % 2 := by rw [Nat.div_div_eq_div_mul, Nat.div_div_eq_div_mul, Nat.div_div_eq_div_mul]; omega
  have h5 : x % 256 / 32 % 2 = x / 2 / 2 / 2 / 2 / 2 % 2 := by rw [Nat.div_div_eq_div_mul, Nat.div_div_eq_div_mul, Nat.div_div_eq_div_mul, Nat.div_div_eq_div_mul]; omega
  have h6 : x % 256 / 64 % 2 = x / 2 / 2 / 2 / 2 / 2 / 2 % 2 := by rw [Nat.div_div_eq_div_mul, Nat.div_div_eq_div_mul, Nat.div_div_eq_div_mul, Nat.div_div_eq_div_mul, Nat.div_div_eq_div_mul]; omega
  have h7 : x % 256 / 128 % 2 = x / 2 / 2 / 2 / 2 / 2 / 2 / 2 % 2 := by rw [Nat.div_div_eq_div_mul, Nat.div_div_eq_div_mul, Nat.div_div_eq_div_mul, Nat.div_div_eq_div_mul, Nat.div_div_eq_div_mul, Nat.div_div_eq_div_mul]; omega
  unfold pc8
  rw [h0, h1, h2, h3, h4, h5, h6, h7]
  simp only [Nat.add_assoc]
theorem and_spk (k p q r s : Nat) (hq : q < 2 ^ k) (hs : s < 2 ^ k) : (2 ^ k * p + q) &&& (2 ^ k * r + s) = 2 ^ k * (p &&& r) + (q &&& s) := by
  have l : q &&& s < 2 ^ k := Nat.lt_of_le_of_lt Nat.and_le_left hq
  refine Nat.eq_of_testBit_eq fun i => ?_
  rw [Nat.testBit_and, Nat.testBit_two_pow_mul_add _ hq, Nat.testBit_two_pow_mul_add _ hs, Nat.testBit_two_pow_mul_add _ l]
  by_cases c : i < k
  · rw [if_pos c, if_pos c, if_pos c, Nat.testBit_and]
  · rw [if_neg c, if_neg c, if_neg c, Nat.testBit_and]
theorem and_sp (p q r s : Nat) (hq : q < 256) (hs : s < 256) : (256 * p + q) &&& (256 * r + s) = 256 * (p &&& r) + (q &&& s) := and_spk 8 p q r s hq hs
/-- digit d n times; a function on each digit -/
def rep (d : Nat) : Nat → Nat
  | 0 => 0
  | n + 1 => 256 * rep d n + d
def dm (f : Nat → Nat) : Nat → Nat → Nat
  | 0, _ => 0
  | n + 1, x => 256 * dm f n (x / 256) + f (x % 256)
theorem dgA (b : Nat) (hb : b < 256) (e : Nat) (_ : e < 2) : (128 * e + b / 2) &&& 85 = b / 2 &&& 85 := by
  have k := and_spk 7 e (b / 2) 0 85 (show b / 2 < 2 ^ 7 by omega) (by decide)
  rw [Nat.and_zero] at k
  simpa using k
theorem dgB (b : Nat) (hb : b < 256) (e : Nat) (_ : e < 4) : (64 * e + b / 4) &&& 51 = b / 4 &&& 51 := by
  have k := and_spk 6 e (b / 4) 0 51 (show b / 4 < 2 ^ 6 by omega) (by decide)
  rw [Nat.and_zero] at k
  simpa using k
theorem dgC (b : Nat) (_ : b < 128) (e : Nat) (_ : e < 5) : (b + 16 * e + b / 16) &&& 15 = (b + b / 16) &&& 15 := by
  rw [show (15 : Nat) = 2 ^ 4 - 1 from rfl, Nat.and_two_pow_sub_one_eq_mod, Nat.and_two_pow_sub_one_eq_mod]
  omega
theorem swA_ (n : Nat) : ∀ x, x < 256 ^ n → x - (x / 2 &&& rep 85 n) = dm (fun b => b - (b / 2 &&& 85)) n x := by
  induction n with
  | zero =>
    intro x hx
    obtain rfl : x = 0 := by omega
    rfl
  | succ n ih =>
    intro x hx
    have hy : x / 256 < 256 ^ n := by
      rw [Nat.pow_succ] at hx
      omega
    have i := ih (x / 256) hy
    show x - (x / 2 &&& (256 * rep 85 n + 85)) = 256 * dm _ n (x / 256) + (x % 256 - (x % 256 / 2 &&& 85))
    rw [← i, show x / 2 = 256 * (x / 256 / 2) + (128 * (x / 256 % 2) + x % 256 / 2) by omega, and_sp _ _ _ _ (by omega) (by decide), dgA (x % 256) (by omega) (x / 256 % 2) (by omega)]
    have l1 : (x / 256 / 2 &&& rep 85 n) ≤ x / 256 / 2 := Nat.and_le_left
    have l2 : (x % 256 / 2 &&& 85) ≤ x % 256 / 2 := Nat.and_le_left
    omega
theorem dm_lt {f : Nat → Nat} (hf : ∀ b, b < 256 → f b < 256) (n : Nat) : ∀ x, dm f n x < 256 ^ n := by
  induction n with
  | zero => exact fun x => Nat.one_pos
  | succ n ih =>
    intro x
    have i := ih (x / 256)
    have j := hf (x % 256) (by omega)
    show 256 * dm f n (x / 256) + f (x % 256) < 256 ^ (n + 1)
    rw [Nat.pow_succ]
    omega
theorem swB_ {f : Nat → Nat} (hf : ∀ b, b < 256 → f b < 256) (n : Nat) : ∀ x, (dm f n x &&& rep 51 n) + (dm f n x / 4 &&& rep 51 n) = dm (fun b => (f b &&& 51) + (f b / 4 &&& 51)) n x := by
  induction n with
  | zero =>
    intro x
    show ((0 : Nat) &&& 0) + ((0 : Nat) / 4 &&& 0) = 0
    decide
  | succ n ih =>
    intro x
    have i := ih (x / 256)
    have j := hf (x % 256) (by omega)
    show ((256 * dm f n (x / 256) + f (x % 256)) &&& (256 * rep 51 n + 51)) + ((256 * dm f n (x / 256) + f (x % 256)) / 4 &&& (256 * rep 51 n + 51)) = 256 * dm (fun b => (f b &&& 51) + (f b / 4 &&& 51)) n (x / 256) + ((f (x % 256) &&& 51) + (f (x % 256) / 4 &&& 51))
    rw [← i, and_sp _ _ _ _ j (by decide)]
    generalize dm f n (x / 256) = y at *
    generalize f (x % 256) = b at *
    rw [show (256 * y + b) / 4 = 256 * (y / 4) + (64 * (y % 4) + b / 4) by omega, and_sp _ _ _ _ (by omega) (by decide), dgB b j (y % 4) (by omega)]
    omega
theorem swC_ {f : Nat → Nat} (hf : ∀ b, b < 256 → f b % 16 ≤ 4 ∧ f b / 16 ≤ 4) (n : Nat) : ∀ x, (dm f n x + dm f n x / 16) &&& rep 15 n = dm (fun b => (f b + f b / 16) &&& 15) n x := by
  have lo : ∀ n x, dm f n x % 16 ≤ 4 := fun n x => by
    cases n with
    | zero => exact Nat.zero_le _
    | succ n =>
      have := (hf (x % 256) (by omega)).1
      show (256 * dm f n (x / 256) + f (x % 256)) % 16 ≤ 4
      omega
  induction n with
  | zero => exact fun x => Nat.and_zero _
  | succ n ih =>
    intro x
    have i := ih (x / 256)
    have j := hf (x % 256) (by omega)
    have k := lo n (x / 256)
    show ((256 * dm f n (x / 256) + f (x % 256)) + (256 * dm f n (x / 256) + f (x % 256)) / 16) &&& (256 * rep 15 n + 15) = 256 * dm (fun b => (f b + f b / 16) &&& 15) n (x / 256) + ((f (x % 256) + f (x % 256) / 16) &&& 15)
    rw [← i]
    generalize dm f n (x / 256) = y at *
    generalize f (x % 256) = b at *
    rw [show 256 * y + b + (256 * y + b) / 16 = 256 * (y + y / 16) + (b + 16 * (y % 16) + b / 16) by omega, and_sp _ _ _ _ (by omega) (by decide), dgC b (by omega) (y % 16) (by omega)]
theorem dg_all : ∀ b, b < 256 → (b - (b / 2 &&& 85) < 256) ∧ ((((b - (b / 2 &&& 85)) &&& 51) + ((b - (b / 2 &&& 85)) / 4 &&& 51)) % 16 ≤ 4 ∧ (((b - (b / 2 &&& 85)) &&& 51) + ((b - (b / 2 &&& 85)) / 4 &&& 51)) / 16 ≤ 4) ∧ ((((b - (b / 2 &&& 85)) &&& 51) + ((b - (b / 2 &&& 85)) / 4 &&& 51)) + (((b - (b / 2 &&& 85)) &&& 51) + ((b - (b / 2 &&& 85)) / 4 &&& 51)) / 16) &&& 15 = pc8 b := by decide +kernel
theorem dm_c {f g : Nat → Nat} (e : ∀ b, b < 256 → f b = g b) (n : Nat) : ∀ x, dm f n x = dm g n x := by
  induction n with
  | zero => exact fun x => rfl
  | succ n ih =>
    intro x
    show 256 * dm f n (x / 256) + f (x % 256) = 256 * dm g n (x / 256) + g (x % 256)
    rw [ih, e _ (by omega)]
/-- the three masked steps: each byte becomes how many of its bits are set -/
theorem st_all (n x : Nat) (hx : x < 256 ^ n) {a b c : Nat} (ea : a = x - (x / 2 &&& rep 85 n)) (eb : b = (a &&& rep 51 n) + (a / 4 &&& rep 51 n)) (ec : c = (b + b / 16) &&& rep 15 n) : c = dm pc8 n x := by
  rw [swA_ n x hx] at ea
  subst ea
  rw [swB_ (fun b hb => (dg_all b hb).1) n x] at eb
  subst eb
  rw [swC_ (fun b hb => (dg_all b hb).2.1) n x] at ec
  rw [ec]
  exact dm_c (fun b hb => (dg_all b hb).2.2) n x
theorem dv_ {k y r s : Nat} (e : s = k * y + r) (h : r < k) : s / k = y := by
  rw [e, Nat.mul_add_div (Nat.lt_of_le_of_lt (Nat.zero_le r) h), Nat.div_eq_of_lt h, Nat.add_zero]
theorem md_ {y r s : Nat} (e : s = 256 * y + r) (h : r < 128) : s % 128 = r := by omega
theorem su_f1 (p0 p1 p2 p3 p4 p5 p6 p7 : Nat) : (256 * (256 * (256 * (256 * (256 * (256 * (256 * (256 * 0 + p7) + p6) + p5) + p4) + p3) + p2) + p1) + p0) + (256 * (256 * (256 * (256 * (256 * (256 * (256 * 0 + p7) + p6) + p5) + p4) + p3) + p2) + p1) = 65536 * (p2 + p3 + 256 * (p3 + p4) + 65536 * (p4 + p5) + 16777216 * (p5 + p6) + 4294967296 * (p6 + p7) + 1099511627776 * p7) + (p0 + p1 + 256 * (p1 + p2)) := by omega
theorem su_f2 (p0 p1 p2 p3 p4 p5 p6 p7 : Nat) : (65536 * (p2 + p3 + 256 * (p3 + p4) + 65536 * (p4 + p5) + 16777216 * (p5 + p6) + 4294967296 * (p6 + p7) + 1099511627776 * p7) + (p0 + p1 + 256 * (p1 + p2))) + (p2 + p3 + 256 * (p3 + p4) + 65536 * (p4 + p5) + 16777216 * (p5 + p6) + 4294967296 * (p6 + p7) + 1099511627776 * p7) = 4294967296 * (p4 + p5 + p6 + p7 + 256 * (p5 + p6 + p7) + 65536 * (p6 + p7) + 16777216 * p7) + (p0 + p1 + p2 + p3 + 256 * (p1 + p2 + p3 + p4) + 65536 * (p2 + p3 + p4 + p5) + 16777216 * (p3 + p4 + p5 + p6)) := by omega
theorem su_f3 (p0 p1 p2 p3 p4 p5 p6 p7 : Nat) : (4294967296 * (p4 + p5 + p6 + p7 + 256 * (p5 + p6 + p7) + 65536 * (p6 + p7) + 16777216 * p7) + (p0 + p1 + p2 + p3 + 256 * (p1 + p2 + p3 + p4) + 65536 * (p2 + p3 + p4 + p5) + 16777216 * (p3 + p4 + p5 + p6))) + (p4 + p5 + p6 + p7 + 256 * (p5 + p6 + p7) + 65536 * (p6 + p7) + 16777216 * p7) = 256 * (p1 + p2 + p3 + p4 + p5 + p6 + p7 + 256 * (p2 + p3 + p4 + p5 + p6 + p7) + 65536 * (p3 + p4 + p5 + p6 + p7) + 16777216 * (p4 + p5 + p6 + p7) + 4294967296 * (p5 + p6 + p7) + 1099511627776 * (p6 + p7) + 281474976710656 * p7) + (p0 + p1 + p2 + p3 + p4 + p5 + p6 + p7) := by omega
theorem su_r1 {p0 p1 p2 p3 p4 p5 p6 p7 : Nat} (h : p0 ≤ 8 ∧ p1 ≤ 8 ∧ p2 ≤ 8 ∧ p3 ≤ 8 ∧ p4 ≤ 8 ∧ p5 ≤ 8 ∧ p6 ≤ 8 ∧ p7 ≤ 8) : p0 + p1 + 256 * (p1 + p2) < 65536 := by omega
theorem su_r2 {p0 p1 p2 p3 p4 p5 p6 p7 : Nat} (h : p0 ≤ 8 ∧ p1 ≤ 8 ∧ p2 ≤ 8 ∧ p3 ≤ 8 ∧ p4 ≤ 8 ∧ p5 ≤ 8 ∧ p6 ≤ 8 ∧ p7 ≤ 8) : p0 + p1 + p2 + p3 + 256 * (p1 + p2 + p3 + p4) + 65536 * (p2 + p3 + p4 + p5) + 16777216 * (p3 + p4 + p5 + p6) < 4294967296 := by omega
theorem su_r3 {p0 p1 p2 p3 p4 p5 p6 p7 : Nat} (h : p0 ≤ 8 ∧ p1 ≤ 8 ∧ p2 ≤ 8 ∧ p3 ≤ 8 ∧ p4 ≤ 8 ∧ p5 ≤ 8 ∧ p6 ≤ 8 ∧ p7 ≤ 8) : p0 + p1 + p2 + p3 + p4 + p5 + p6 + p7 < 128 := by omega
theorem su_b1 {p0 p1 p2 p3 p4 p5 p6 p7 : Nat} (h : p0 ≤ 8 ∧ p1 ≤ 8 ∧ p2 ≤ 8 ∧ p3 ≤ 8 ∧ p4 ≤ 8 ∧ p5 ≤ 8 ∧ p6 ≤ 8 ∧ p7 ≤ 8) : 65536 * (p2 + p3 + 256 * (p3 + p4) + 65536 * (p4 + p5) + 16777216 * (p5 + p6) + 4294967296 * (p6 + p7) + 1099511627776 * p7) + (p0 + p1 + 256 * (p1 + p2)) < 2 ^ 62 := by omega
theorem su_b2 {p0 p1 p2 p3 p4 p5 p6 p7 : Nat} (h : p0 ≤ 8 ∧ p1 ≤ 8 ∧ p2 ≤ 8 ∧ p3 ≤ 8 ∧ p4 ≤ 8 ∧ p5 ≤ 8 ∧ p6 ≤ 8 ∧ p7 ≤ 8) : 4294967296 * (p4 + p5 + p6 + p7 + 256 * (p5 + p6 + p7) + 65536 * (p6 + p7) + 16777216 * p7) + (p0 + p1 + p2 + p3 + 256 * (p1 + p2 + p3 + p4) + 65536 * (p2 + p3 + p4 + p5) + 16777216 * (p3 + p4 + p5 + p6)) < 2 ^ 62 := by omega
theorem su_b3 {p0 p1 p2 p3 p4 p5 p6 p7 : Nat} (h : p0 ≤ 8 ∧ p1 ≤ 8 ∧ p2 ≤ 8 ∧ p3 ≤ 8 ∧ p4 ≤ 8 ∧ p5 ≤ 8 ∧ p6 ≤ 8 ∧ p7 ≤ 8) : 256 * (p1 + p2 + p3 + p4 + p5 + p6 + p7 + 256 * (p2 + p3 + p4 + p5 + p6 + p7) + 65536 * (p3 + p4 + p5 + p6 + p7) + 16777216 * (p4 + p5 + p6 + p7) + 4294967296 * (p5 + p6 + p7) + 1099511627776 * (p6 + p7) + 281474976710656 * p7) + (p0 + p1 + p2 + p3 + p4 + p5 + p6 + p7) < 2 ^ 62 := by omega
theorem sum_8 {X p0 p1 p2 p3 p4 p5 p6 p7 : Nat} (e : X = 256 * (256 * (256 * (256 * (256 * (256 * (256 * (256 * 0 + p7) + p6) + p5) + p4) + p3) + p2) + p1) + p0) (h : p0 ≤ 8 ∧ p1 ≤ 8 ∧ p2 ≤ 8 ∧ p3 ≤ 8 ∧ p4 ≤ 8 ∧ p5 ≤ 8 ∧ p6 ≤ 8 ∧ p7 ≤ 8) : ∀ {s1 s2 s3 : Nat}, s1 = X + X / 256 → s2 = s1 + s1 / 65536 → s3 = s2 + s2 / 4294967296 → s3 % 128 = p0 + (p1 + (p2 + (p3 + (p4 + (p5 + (p6 + p7)))))) ∧ s1 < 2 ^ 62 ∧ s2 < 2 ^ 62 ∧ s3 < 2 ^ 62 := by
  have d1 := dv_ (k := 256) e (Nat.lt_of_le_of_lt h.1 (by decide))
  intro s1 s2 s3 e1 e2 e3
  rw [d1, e, su_f1] at e1
  rw [dv_ (k := 65536) e1 (su_r1 h), e1, su_f2] at e2
  rw [dv_ (k := 4294967296) e2 (su_r2 h), e2, su_f3] at e3
  refine ⟨(md_ e3 (su_r3 h)).trans ?_, ?_, ?_, ?_⟩
  · simp only [Nat.add_assoc]
  · rw [e1]
    exact su_b1 h
  · rw [e2]
    exact su_b2 h
  · rw [e3]
    exact su_b3 h
/-- Long.bitCount -/
theorem swar64 (x : Nat) (hx : x < 2 ^ 64) {a b c s1 s2 s3 : Nat} (ea : a = x - (x / 2 &&& 6148914691236517205)) (eb : b = (a &&& 3689348814741910323) + (a / 4 &&& 3689348814741910323)) (ec : c = (b + b / 16) &&& 1085102592571150095) (e1 : s1 = c + c / 256) (e2 : s2 = s1 + s1 / 65536) (e3 : s3 = s2 + s2 / 4294967296) : s3 % 128 = nb x 64 ∧ s3 < 2 ^ 62 ∧ s2 < 2 ^ 62 ∧ s1 < 2 ^ 62 := by
  have k := st_all 8 x hx ea eb ec
  have k : c = 256 * (256 * (256 * (256 * (256 * (256 * (256 * (256 * 0 + pc8 (x / 256 / 256 / 256 / 256 / 256 / 256 / 256 % 256)) + pc8 (x / 256 / 256 / 256 / 256 / 256 / 256 % 256)) + pc8 (x / 256 / 256 / 256 / 256 / 256 % 256)) + pc8 (x / 256 / 256 / 256 / 256 % 256)) + pc8 (x / 256 / 256 / 256 % 256)) + pc8 (x / 256 / 256 % 256)) + pc8 (x / 256 % 256)) + pc8 (x % 256) := k
  have r := sum_8 k ⟨pc8_b _, pc8_b _, pc8_b _, pc8_b _, pc8_b _, pc8_b _, pc8_b _, pc8_b _⟩ e1 e2 e3
  refine ⟨?_, r.2.2.2, r.2.2.1, r.2.1⟩
  rw [r.1, show (64 : Nat) = 56 + 8 from rfl, nb_8, show (56 : Nat) = 48 + 8 from rfl, nb_8, show (48 : Nat) = 40 + 8 from rfl, nb_8, show (40 : Nat) = 32 + 8 from rfl, nb_8, show (32 : Nat) = 24 + 8 from rfl, nb_8, show (24 : Nat) = 16 + 8 from rfl, nb_8, show (16 : Nat) = 8 + 8 from rfl, nb_8, show (8 : Nat) = 0 + 8 from rfl, nb_8]
  show _ = _ + (_ + (_ + (_ + (_ + (_ + (_ + (_ + 0)))))))
  rw [Nat.add_zero]
theorem md4_ {y r s : Nat} (e : s = 256 * y + r) (h : r < 64) : s % 64 = r := by omega
theorem sum_4 {X p0 p1 p2 p3 : Nat} (e : X = 256 * (256 * (256 * (256 * 0 + p3) + p2) + p1) + p0) (h : p0 ≤ 8 ∧ p1 ≤ 8 ∧ p2 ≤ 8 ∧ p3 ≤ 8) : ∀ {s1 s2 : Nat}, s1 = X + X / 256 → s2 = s1 + s1 / 65536 → s2 % 64 = p0 + (p1 + (p2 + p3)) ∧ s1 < 2 ^ 30 ∧ s2 < 2 ^ 30 := by
  have d1 := dv_ (k := 256) e (Nat.lt_of_le_of_lt h.1 (by decide))
  intro s1 s2 e1
  rw [d1] at e1
  clear d1
  have f1 : s1 = 65536 * (p2 + p3 + 256 * p3) + (p0 + p1 + 256 * (p1 + p2)) := by omega
  clear e1 e
  have b1 : s1 < 2 ^ 30 := by omega
  have d2 := dv_ (k := 65536) f1 (by omega)
  intro e2
  rw [d2] at e2
  clear d2
  have f2 : s2 = 256 * (p1 + p2 + p3 + 256 * (p2 + p3) + 65536 * p3) + (p0 + p1 + p2 + p3) := by omega
  clear e2 f1
  have m := md4_ f2 (by
    clear b1 f2
    omega)
  have b2 : s2 < 2 ^ 30 := by
    clear m b1
    omega
  exact ⟨m.trans (by simp only [Nat.add_assoc]), b1, b2⟩
theorem swar32 (x : Nat) (hx : x < 2 ^ 32) {a b c s1 s2 : Nat} (ea : a = x - (x / 2 &&& 1431655765)) (eb : b = (a &&& 858993459) + (a / 4 &&& 858993459)) (ec : c = (b + b / 16) &&& 252645135) (e1 : s1 = c + c / 256) (e2 : s2 = s1 + s1 / 65536) : s2 % 64 = nb x 32 ∧ s2 < 2 ^ 30 ∧ s1 < 2 ^ 30 := by
  have k := st_all 4 x hx ea eb ec
  have k : c = 256 * (256 * (256 * (256 * 0 + pc8 (x / 256 / 256 / 256 % 256)) + pc8 (x / 256 / 256 % 256)) + pc8 (x / 256 % 256)) + pc8 (x % 256) := k
  have r := sum_4 k ⟨pc8_b _, pc8_b _, pc8_b _, pc8_b _⟩ e1 e2
  refine ⟨?_, r.2.2, r.2.1⟩
  rw [r.1, show (32 : Nat) = 24 + 8 from rfl, nb_8, show (24 : Nat) = 16 + 8 from rfl, nb_8, show (16 : Nat) = 8 + 8 from rfl, nb_8, show (8 : Nat) = 0 + 8 from rfl, nb_8]
  show _ = _ + (_ + (_ + (_ + 0)))
  rw [Nat.add_zero]
/-- Integer.bitCount -/
def us32 (x y : Int32) : Int32 := (x.toUInt32 >>> (y.toUInt32 &&& Int32.toUInt32 31)).toInt32
def nuI (x : Int32) : Nat := x.toBitVec.toNat
theorem nuI_lt (x : Int32) : nuI x < 4294967296 := x.toBitVec.isLt
theorem nuI_us {v w : Int32} {k : Int32} {m : Nat} (e : us32 v k = w) (h : ((k.toUInt32 &&& Int32.toUInt32 31).toBitVec % 32#32).toNat = m) : nuI w = nuI v / 2 ^ m := by
  subst e
  have q : (us32 v k).toBitVec = v.toBitVec >>> ((k.toUInt32 &&& Int32.toUInt32 31).toBitVec % 32#32) := rfl
  unfold nuI
  rw [q, BitVec.ushiftRight_eq', BitVec.toNat_ushiftRight, h, Nat.shiftRight_eq_div_pow]
theorem nuI_and {a b c : Int32} (e : a &&& b = c) : nuI c = nuI a &&& nuI b := by
  subst e
  unfold nuI
  rw [Int32.toBitVec_and, BitVec.toNat_and]
theorem nuI_sub {a b c : Int32} (e : a - b = c) (h : nuI b ≤ nuI a) : nuI c = nuI a - nuI b := by
  subst e
  have l := nuI_lt a
  unfold nuI at *
  rw [Int32.toBitVec_sub, BitVec.toNat_sub]
  omega
theorem nuI_add {a b c : Int32} (e : a + b = c) (h : nuI a + nuI b < 4294967296) : nuI c = nuI a + nuI b := by
  subst e
  unfold nuI at *
  rw [Int32.toBitVec_add, BitVec.toNat_add]
  exact Nat.mod_eq_of_lt h
theorem nuI_i {r : Int32} (h : nuI r < 2147483648) : r.toInt = (nuI r : Int) := by
  have c : r.toInt = if 2 * r.toBitVec.toNat < 2 ^ 32 then (r.toBitVec.toNat : Int) else (r.toBitVec.toNat : Int) - ((2 ^ 32 : Nat) : Int) := BitVec.toInt_eq_toNat_cond _
  unfold nuI at *
  rw [c, if_pos (by omega)]
theorem nuI_t {r : Int32} (h : 0 ≤ r.toInt) : nuI r = r.toInt.toNat := by
  have c : r.toInt = if 2 * r.toBitVec.toNat < 2 ^ 32 then (r.toBitVec.toNat : Int) else (r.toBitVec.toNat : Int) - ((2 ^ 32 : Nat) : Int) := BitVec.toInt_eq_toNat_cond _
  have l := nuI_lt r
  unfold nuI at *
  split at c <;> omega
theorem bc_I {a x1 x2 x3 x4 x5 x6 x7 x8 x9 x10 x11 x12 x13 x14 x15 : Int32} (e1 : us32 a 1 = x1) (e2 : x1 &&& 1431655765 = x2) (e3 : a - x2 = x3) (e4 : x3 &&& 858993459 = x4) (e5 : us32 x3 2 = x5) (e6 : x5 &&& 858993459 = x6) (e7 : x4 + x6 = x7) (e8 : us32 x7 4 = x8) (e9 : x7 + x8 = x9) (e10 : x9 &&& 252645135 = x10) (e11 : us32 x10 8 = x11) (e12 : x10 + x11 = x12) (e13 : us32 x12 16 = x13) (e14 : x12 + x13 = x14) (e15 : x14 &&& 63 = x15) : x15.toInt = (nb (nuI a) 32 : Int) := by
  have l := nuI_lt a
  have m5 : nuI 1431655765 = 1431655765 := by decide +kernel
  have m3 : nuI 858993459 = 858993459 := by decide +kernel
  have mF : nuI 252645135 = 252645135 := by decide +kernel
  have m6 : nuI 63 = 63 := by decide +kernel
  have n1 := nuI_us (m := 1) e1 (by decide +kernel)
  have n2 := nuI_and e2
  rw [m5, n1] at n2
  have b2 : nuI x2 ≤ nuI a / 2 ^ 1 := by rw [n2]; exact Nat.and_le_left
  have n3 := nuI_sub e3 (by omega)
  have n4 := nuI_and e4
  have n5 := nuI_us (m := 2) e5 (by decide +kernel)
  have n6 := nuI_and e6
  rw [m3] at n4 n6
  have b4 : nuI x4 ≤ 858993459 := by rw [n4]; exact Nat.and_le_right
  have b6 : nuI x6 ≤ 858993459 := by rw [n6]; exact Nat.and_le_right
  have n7 := nuI_add e7 (by omega)
  have n8 := nuI_us (m := 4) e8 (by decide +kernel)
  have n9 := nuI_add e9 (by omega)
  have n10 := nuI_and e10
  rw [mF] at n10
  have n11 := nuI_us (m := 8) e11 (by decide +kernel)
  have n13 := nuI_us (m := 16) e13 (by decide +kernel)
  have S := swar32 (nuI a) l (a := nuI x3) (b := nuI x7) (c := nuI x10) (s1 := nuI x10 + nuI x10 / 256) (s2 := nuI x10 + nuI x10 / 256 + (nuI x10 + nuI x10 / 256) / 65536) (by rw [n3, n2]) (by rw [n7, n4, n6, n5]) (by rw [n10, n9, n8]) rfl rfl
  obtain ⟨s0, b3, b1⟩ := S
  have n12 := nuI_add e12 (by omega)
  have n14 := nuI_add e14 (by omega)
  have n15 := nuI_and e15
  rw [m6, show (63 : Nat) = 2 ^ 6 - 1 from rfl, Nat.and_two_pow_sub_one_eq_mod] at n15
  have e : nuI x15 = nb (nuI a) 32 := by
    rw [n15, ← s0, n14, n13, n12, n11]
  rw [nuI_i (by omega), e]
/-- taking the lowest bit away -/
theorem kern_nb (m : Nat) : ∀ x, 0 < x → x < 2 ^ m → (x &&& (x - 1)) < x ∧ nb (x &&& (x - 1)) m + 1 = nb x m := by
  induction m with
  | zero => exact fun x h0 h1 => by omega
  | succ m ih =>
    intro x h0 h1
    rw [Nat.pow_succ] at h1
    rcases Nat.mod_two_eq_zero_or_one x with h | h
    · obtain ⟨i1, i2⟩ := ih (x / 2) (by omega) (by omega)
      have e : x &&& (x - 1) = 2 * (x / 2 &&& (x / 2 - 1)) := by
        have k := and_spk 1 (x / 2) 0 (x / 2 - 1) 1 (by decide) (by decide)
        rw [Nat.zero_and, Nat.add_zero, Nat.add_zero, show 2 ^ 1 * (x / 2) = x by omega, show 2 ^ 1 * (x / 2 - 1) + 1 = x - 1 by omega] at k
        exact k
      rw [e, nb_lo, nb_lo, h, show 2 * (x / 2 &&& (x / 2 - 1)) % 2 = 0 by omega, show 2 * (x / 2 &&& (x / 2 - 1)) / 2 = (x / 2 &&& (x / 2 - 1)) by omega]
      exact ⟨by omega, by omega⟩
    · have e : x &&& (x - 1) = x - 1 := by
        have k := and_spk 1 (x / 2) 1 (x / 2) 0 (by decide) (by decide)
        rw [Nat.and_zero, Nat.add_zero, Nat.add_zero, Nat.and_self, show 2 ^ 1 * (x / 2) + 1 = x by omega, show 2 ^ 1 * (x / 2) = x - 1 by omega] at k
        exact k
      rw [e, nb_lo, nb_lo, h, show (x - 1) % 2 = 0 by omega, show (x - 1) / 2 = x / 2 by omega]
      exact ⟨by omega, by omega⟩
theorem kn_e {a b c : Int32} (h : 1 ≤ a.toInt) (e1 : a - 1 = b) (e2 : a &&& b = c) : 0 ≤ c.toInt ∧ c.toInt < a.toInt ∧ nb (nuI c) 32 + 1 = nb (nuI a) 32 := by
  have l := nuI_lt a
  have ha := nuI_t (r := a) (by omega)
  have m1 : nuI 1 = 1 := by decide +kernel
  have n1 := nuI_sub e1 (by rw [m1]; omega)
  have n2 := nuI_and e2
  rw [n1, m1] at n2
  obtain ⟨k1, k2⟩ := kern_nb 32 (nuI a) (by omega) l
  rw [← n2] at k1 k2
  have hc := nuI_i (r := c) (by have := Int32.toInt_lt a; omega)
  exact ⟨by omega, by omega, k2⟩
theorem nb_ge (x m : Nat) (h : x < 2 ^ m) : ∀ n : Nat, nb x (m + n) = nb x m := fun n => by
  induction n with
  | zero => rfl
  | succ n ih =>
    show nb x (m + n) + (x.testBit (m + n)).toNat = _
    rw [ih, Nat.testBit_lt_two_pow (Nat.lt_of_lt_of_le h (Nat.pow_le_pow_right (by decide) (by omega)))]
    rfl
/-- Long.bitCount -/
def us64 (x : Int64) (y : Int32) : Int64 := (x.toUInt64 >>> (y.toInt64.toUInt64 &&& Int64.toUInt64 63)).toInt64
def nuJ (x : Int64) : Nat := x.toBitVec.toNat
theorem nuJ_lt (x : Int64) : nuJ x < 18446744073709551616 := x.toBitVec.isLt
theorem nuJ_us {v w : Int64} {k : Int32} {m : Nat} (e : us64 v k = w) (h : ((k.toInt64.toUInt64 &&& Int64.toUInt64 63).toBitVec % 64#64).toNat = m) : nuJ w = nuJ v / 2 ^ m := by
  subst e
  have q : (us64 v k).toBitVec = v.toBitVec >>> ((k.toInt64.toUInt64 &&& Int64.toUInt64 63).toBitVec % 64#64) := rfl
  unfold nuJ
  rw [q, BitVec.ushiftRight_eq', BitVec.toNat_ushiftRight, h, Nat.shiftRight_eq_div_pow]
theorem nuJ_and {a b c : Int64} (e : a &&& b = c) : nuJ c = nuJ a &&& nuJ b := by
  subst e
  unfold nuJ
  rw [Int64.toBitVec_and, BitVec.toNat_and]
theorem nuJ_sub {a b c : Int64} (e : a - b = c) (h : nuJ b ≤ nuJ a) : nuJ c = nuJ a - nuJ b := by
  subst e
  have l := nuJ_lt a
  unfold nuJ at *
  rw [Int64.toBitVec_sub, BitVec.toNat_sub]
  omega
theorem nuJ_add {a b c : Int64} (e : a + b = c) (h : nuJ a + nuJ b < 18446744073709551616) : nuJ c = nuJ a + nuJ b := by
  subst e
  unfold nuJ at *
  rw [Int64.toBitVec_add, BitVec.toNat_add]
  exact Nat.mod_eq_of_lt h
theorem l2i_127 {y : Int64} {z r : Int32} (e1 : y.toInt32 = z) (e2 : z &&& 127 = r) : r.toInt = ((nuJ y % 128 : Nat) : Int) := by
  have k : r.toBitVec.toNat = nuJ y % 128 := by
    subst e1 e2
    rw [Int32.toBitVec_and, BitVec.toNat_and]
    show (y.toBitVec.signExtend 32).toNat &&& 127 = _
    have q : (y.toBitVec.signExtend 32).toNat = y.toBitVec.toNat % 4294967296 := by
      rw [BitVec.signExtend_eq_setWidth_of_le _ (by decide), BitVec.toNat_setWidth]
    rw [q, show (127 : Nat) = 2 ^ 7 - 1 from rfl, Nat.and_two_pow_sub_one_eq_mod]
    unfold nuJ
    omega
  have c : r.toInt = if 2 * r.toBitVec.toNat < 2 ^ 32 then (r.toBitVec.toNat : Int) else (r.toBitVec.toNat : Int) - ((2 ^ 32 : Nat) : Int) := BitVec.toInt_eq_toNat_cond _
  rw [c, if_pos (by omega), k]
theorem bc_J {a y1 y2 y3 y4 y5 y6 y7 y8 y9 y10 y11 y12 y13 y14 y15 y16 : Int64} {z r : Int32} (e1 : us64 a 1 = y1) (e2 : y1 &&& 6148914691236517205 = y2) (e3 : a - y2 = y3) (e4 : y3 &&& 3689348814741910323 = y4) (e5 : us64 y3 2 = y5) (e6 : y5 &&& 3689348814741910323 = y6) (e7 : y4 + y6 = y7) (e8 : us64 y7 4 = y8) (e9 : y7 + y8 = y9) (e10 : y9 &&& 1085102592571150095 = y10) (e11 : us64 y10 8 = y11) (e12 : y10 + y11 = y12) (e13 : us64 y12 16 = y13) (e14 : y12 + y13 = y14) (e15 : us64 y14 32 = y15) (e16 : y14 + y15 = y16) (e17 : y16.toInt32 = z) (e18 : z &&& 127 = r) : r.toInt = (nb (nuJ a) 64 : Int) := by
  have l := nuJ_lt a
  have m5 : nuJ 6148914691236517205 = 6148914691236517205 := by decide +kernel
  have m3 : nuJ 3689348814741910323 = 3689348814741910323 := by decide +kernel
  have mF : nuJ 1085102592571150095 = 1085102592571150095 := by decide +kernel
  have n1 := nuJ_us (m := 1) e1 (by decide +kernel)
  have n2 := nuJ_and e2
  rw [m5, n1] at n2
  have b2 : nuJ y2 ≤ nuJ a / 2 ^ 1 := by rw [n2]; exact Nat.and_le_left
  have n3 := nuJ_sub e3 (by omega)
  have n4 := nuJ_and e4
  have n5 := nuJ_us (m := 2) e5 (by decide +kernel)
  have n6 := nuJ_and e6
  rw [m3] at n4 n6
  have b4 : nuJ y4 ≤ 3689348814741910323 := by rw [n4]; exact Nat.and_le_right
  have b6 : nuJ y6 ≤ 3689348814741910323 := by rw [n6]; exact Nat.and_le_right
  have n7 := nuJ_add e7 (by omega)
  have n8 := nuJ_us (m := 4) e8 (by decide +kernel)
  have n9 := nuJ_add e9 (by omega)
  have n10 := nuJ_and e10
  rw [mF] at n10
  have n11 : nuJ y11 = nuJ y10 / 256 := nuJ_us (m := 8) e11 (by decide +kernel)
  have n13 : nuJ y13 = nuJ y12 / 65536 := nuJ_us (m := 16) e13 (by decide +kernel)
  have n15 : nuJ y15 = nuJ y14 / 4294967296 := nuJ_us (m := 32) e15 (by decide +kernel)
  have S := swar64 (nuJ a) l (a := nuJ y3) (b := nuJ y7) (c := nuJ y10) (s1 := nuJ y10 + nuJ y10 / 256) (s2 := nuJ y10 + nuJ y10 / 256 + (nuJ y10 + nuJ y10 / 256) / 65536) (s3 := nuJ y10 + nuJ y10 / 256 + (nuJ y10 + nuJ y10 / 256) / 65536 + (nuJ y10 + nuJ y10 / 256 + (nuJ y10 + nuJ y10 / 256) / 65536) / 4294967296) (by rw [n3, n2]) (by rw [n7, n4, n6, n5]) (by rw [n10, n9, n8]) rfl rfl rfl
  obtain ⟨s0, b3, b2', b1⟩ := S
  have n12 := nuJ_add e12 (by omega)
  have n14 := nuJ_add e14 (by omega)
  have n16 := nuJ_add e16 (by omega)
  have e : nuJ y16 = nuJ y10 + nuJ y10 / 256 + (nuJ y10 + nuJ y10 / 256) / 65536 + (nuJ y10 + nuJ y10 / 256 + (nuJ y10 + nuJ y10 / 256) / 65536) / 4294967296 := by rw [n16, n15, n14, n13, n12, n11]
  rw [l2i_127 e17 e18, e, s0]

end WSWR
