/-! STRETCHES of words, printed by program but for its head -/
section STR
/-- whether the fields of five elements from k on are those of a word -/
def FOKd (h : aH) (a : Nat) (k : Int) : Prop := (0 ≤ fl h a (k + 0) ∧ fl h a (k + 0) ≤ 9999) ∧ (0 ≤ fl h a (k + 1) ∧ fl h a (k + 1) ≤ 9999) ∧ (0 ≤ fl h a (k + 2) ∧ fl h a (k + 2) ≤ 9999) ∧ (0 ≤ fl h a (k + 3) ∧ fl h a (k + 3) ≤ 400) ∧ (fl h a (k + 4) = 0 ∨ fl h a (k + 4) = 4 ∨ fl h a (k + 4) = 5)
def GD (h : aH) (p i n w : Int) (j : Nat) : Prop := (j : Int) < n ∧ (0 ≤ i + 5 * (j : Int) ∧ i + 5 * (j : Int) + 5 ≤ gI h 61 p) ∧ FOKd h (63 + p.toNat) (i + 5 * (j : Int)) ∧ w + (j : Int) < 150
def GM (h : aH) (p i n w : Int) (j : Nat) : Prop := (j : Int) < n ∧ (0 ≤ i + 5 * (j : Int) ∧ i + 5 * (j : Int) + 5 ≤ gI h 111 p) ∧ FOKd h 112 (60 * p + (i + 5 * (j : Int))) ∧ w + (j : Int) < 150
def isR (P : Nat → Prop) (x : Int) : Prop := 0 ≤ x ∧ (∀ j : Nat, (j : Int) < x → P j) ∧ ¬ P x.toNat
theorem isR_eq {P P' : Nat → Prop} {x y : Int} (h : isR P x) (g : isR P' y) (e : ∀ j, P j ↔ P' j) : x = y := by
  obtain ⟨h0, h1, h2⟩ := h
  obtain ⟨g0, g1, g2⟩ := g
  rcases Int.lt_trichotomy x y with q | q | q
  · exact absurd ((e _).mpr (g1 x.toNat (by omega))) h2
  · exact q
  · exact absurd ((e _).mp (h1 y.toNat (by omega))) g2
theorem fl_rowk {W : List Nat} {h h' : aH} (hO : OK h) (g : un W h h') {p : Int32} (hp : 0 ≤ p.toInt ∧ p.toInt ≤ 5) (hw : 63 ∉ W ∧ 64 ∉ W ∧ 65 ∉ W ∧ 66 ∉ W ∧ 67 ∉ W ∧ 68 ∉ W) {k k' : Int} (e : k = k') : fl h' (63 + p.toInt.toNat) k = fl h (63 + p.toInt.toNat) k' := by
  subst e
  unfold fl gL
  rcases (show p.toInt = 0 ∨ p.toInt = 1 ∨ p.toInt = 2 ∨ p.toInt = 3 ∨ p.toInt = 4 ∨ p.toInt = 5 by omega) with q | q | q | q | q | q <;> rw [q]
  · rw [show 63 + (0 : Int).toNat = 63 from rfl, arJ_keep (a := 63) (n := 60) hO g (by decide) rfl (by decide) (by decide) hw.1]
  · rw [show 63 + (1 : Int).toNat = 64 from rfl, arJ_keep (a := 64) (n := 60) hO g (by decide) rfl (by decide) (by decide) hw.2.1]
  · rw [show 63 + (2 : Int).toNat = 65 from rfl, arJ_keep (a := 65) (n := 60) hO g (by decide) rfl (by decide) (by decide) hw.2.2.1]
  · rw [show 63 + (3 : Int).toNat = 66 from rfl, arJ_keep (a := 66) (n := 60) hO g (by decide) rfl (by decide) (by decide) hw.2.2.2.1]
  · rw [show 63 + (4 : Int).toNat = 67 from rfl, arJ_keep (a := 67) (n := 60) hO g (by decide) rfl (by decide) (by decide) hw.2.2.2.2.1]
  · rw [show 63 + (5 : Int).toNat = 68 from rfl, arJ_keep (a := 68) (n := 60) hO g (by decide) rfl (by decide) (by decide) hw.2.2.2.2.2]
theorem fl_k112 {W : List Nat} {h h' : aH} (hO : OK h) (g : un W h h') (hw : 112 ∉ W) {k k' : Int} (e : k = k') : fl h' 112 k = fl h 112 k' := by
  subst e
  unfold fl gL
  rw [arJ_keep (a := 112) (n := 360) hO g (by decide) rfl (by decide) (by decide) hw]
end STR
