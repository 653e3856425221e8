/-! THE CALLS FROM OUTSIDE, each by itself: they run and keep GH; printed by program -/
section API
/-- what holds between two calls, n calls after the start -/
def GH (R1 R2 : Int) (h : aH) (n : Nat) : Prop := OK h ∧ SX h ∧ nC h ≤ 2 * n ∧ nW h ≤ 12 * n ∧ rs1 h ≤ R1 ∧ rs2 h ≤ R2
variable {R1 R2 : Int}
theorem GH.rf {h : aH} {n : Nat} (g : GH R1 R2 h n) : GH R1 R2 h (n + 1) := ⟨g.1, g.2.1, by have := g.2.2.1; omega, by have := g.2.2.2.1; omega, g.2.2.2.2⟩
theorem GH.gn {W : List Nat} {h h' : aH} {n : Nat} (g : GH R1 R2 h n) (hO : OK h') (u : un W h h') (hX : SX h') (h1 : nC h' ≤ nC h + 2) (h2 : nW h' ≤ nW h + 12) : GH R1 R2 h' (n + 1) :=
  ⟨hO, hX, by have := g.2.2.1; omega, by have := g.2.2.2.1; omega, Int.le_trans u.2.1 g.2.2.2.2.1, Int.le_trans u.2.2.1 g.2.2.2.2.2⟩
theorem GH.ok {W : List Nat} {h h' : aH} {n : Nat} (g : GH R1 R2 h n) (hO : OK h') (u : un W h h') (hw : ∀ k ∈ sxK, k ∉ W) (h1 : 9002 ∉ W) (h2 : 9010 ∉ W) : GH R1 R2 h' (n + 1) :=
  g.gn hO u (g.2.1.un g.1 hO u hw) (by have := u.nC h1; omega) (by have := u.nW h2; omega)
theorem GH.uX {W : List Nat} {h h' : aH} {n : Nat} (g : GH R1 R2 h n) (hO : OK h') (u : un W h h') (hX : SX h') (h1 : 9002 ∉ W) (h2 : 9010 ∉ W) : GH R1 R2 h' (n + 1) :=
  g.gn hO u hX (by have := u.nC h1; omega) (by have := u.nW h2; omega)
end API
