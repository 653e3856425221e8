/-! HOW MANY comets and words there are: counted with the books' own counters -/
section CNT
variable {d : Nat} {T : aTab} {Q : Option aV → aH → Prop} {pc : Nat} {al : aL} {st : List aV} {h : aH} {kc ks n i : Nat}
theorem nC_app1 {h L : aH} (e : L.countP pC = 1) : nC (h ++ L) ≤ nC h + 1 := by
  unfold nC
  rw [cp_app, e]
  omega
theorem nW_app1 {h L : aH} (e : L.countP pW = 1) : nW (h ++ L) ≤ nW h + 1 := by
  unfold nW
  rw [cp_app, e]
  omega
theorem un.nC {W : List Nat} {h h' : aH} (g : un W h h') (w : 9002 ∉ W) : nC h' ≤ nC h := g.2.2.2.1.resolve_left w
theorem un.nW {W : List Nat} {h h' : aH} (g : un W h h') (w : 9010 ∉ W) : nW h' ≤ nW h := g.2.2.2.2.resolve_left w
end CNT
