/-! THE CALLS FROM OUTSIDE, each by itself: they run and keep GH; printed by program -/
section API
/-- what holds between two calls, n calls after the start -/
def GH (R1 R2 : Int) (h : aH) (n : Nat) : Prop := OK h ∧ SX h ∧ nC h ≤ 2 * n ∧ nW h ≤ 12 * n ∧ rs1 h ≤ R1 ∧ rs2 h ≤ R2
variable {R1 R2 : Int}
theorem GH.rf {h : aH} {n : Nat} (g : GH R1 R2 h n) : GH R1 R2 h (n + 1) := ⟨g.1, g.2.1, by have := g.2.2.1; omega, by have := g.2.2.2.1; omega, g.2.2.2.2⟩
theorem GH.gn {W : List Nat} {h h' : aH} {n : Nat} (g : GH R1 R2 h n) (hO : OK h') (u : un W h h') (hX : SX h') (h1 : nC h' ≤ nC h + 2) (h2 : nW h' ≤ nW h + 12) : GH R1 R2 h' (n + 1) :=
  ⟨hO, hX, by have := g.2.2.1; omega, by have := g.2.2.2.1; omega, Int.le_trans u.2.1 g.2.2.2.2.1, Int.le_trans u.2.2.1 g.2.2.2.2.2⟩
theorem GH.ok {W : List Nat} {h h' : aH} {n : Nat} (g : GH R1 R2 h n) (hO : OK h') (u : un W h h') (hw : ∀ k ∈ sxK, k ∉ W) (h1 : 9002 ∉ W) (h2 : 9010 ∉ W) : GH R1 R2 h' (n + 1) :=
  g.gn hO u (g.2.1.un g.1 hO u hw) (by have := u.nC h1; omega) (by have := u.nW h2; omega)
theorem GH.uX {W : List Nat} {h h' : aH} {n : Nat} (g : GH R1 R2 h n) (hO : OK h') (u : un W h h') (hX : SX h') (h1 : 9002 ∉ W) (h2 : 9010 ∉ W) : GH R1 R2 h' (n + 1) :=
  g.gn hO u hX (by have := u.nC h1; omega) (by have := u.nW h2; omega)
theorem cA_0 {n kc ks : Nat} {h : aH} {Q : Option aV → aH → Prop} (hG : GH R1 R2 h n) (a1 : Int32) (a2 : Int32) (hQ : ∀ r h', (∃ x : Int32, r = some (.inl x)) → GH R1 R2 h' (n + 1) → Q r h') : uCall Mt 60 124 [(.inr (.inr (some 0))), (.inl a1), (.inl a2)] h kc ks Q :=
  sf_X11_great (d := 54) hG.1 a1 a2 (fun r h2 hr hO hu => hQ r h2 hr (hG.ok hO hu (by decide) (by decide) (by decide)))
theorem mA_0 {n kc ks : Nat} {h : aH} {Q : Option aV → aH → Prop} (hG : GH R1 R2 h n) (a1 : Int32) (a2 : Int32) (hQ : ∀ r h', (∃ x : Int32, r = some (.inl x)) → GH R1 R2 h' (n + 1) → Q r h') : uCall Mt 60 191 [(.inr (.inr (some 69))), (.inl a1), (.inl a2)] h kc ks Q :=
  sf_X12_great (d := 58) hG.1 hG.2.1 a1 a2 (fun r h2 hr hO hu q0 => hQ r h2 hr (hG.uX hO hu q0 (by decide) (by decide)))
theorem cA_1 {n kc ks : Nat} {h : aH} {Q : Option aV → aH → Prop} (hG : GH R1 R2 h n) (a1 : Int32) (a2 : Int32) (a3 : Int32) (a4 : Int32) (hQ : ∀ r h', (∃ x : Int32, r = some (.inl x)) → GH R1 R2 h' (n + 1) → Q r h') : uCall Mt 60 125 [(.inr (.inr (some 0))), (.inl a1), (.inl a2), (.inl a3), (.inl a4)] h kc ks Q :=
  sn_X11_comet (d := 54) hG.1 a1 a2 a3 a4 (fun r h2 hr hO hu q0 => hQ r h2 hr (hG.gn hO hu (hG.2.1.un hG.1 hO hu (by decide)) (by omega) (by have := hu.nW (by decide); omega)))
theorem mA_1 {n kc ks : Nat} {h : aH} {Q : Option aV → aH → Prop} (hG : GH R1 R2 h n) (a1 : Int32) (a2 : Int32) (a3 : Int32) (a4 : Int32) (hQ : ∀ r h', (∃ x : Int32, r = some (.inl x)) → GH R1 R2 h' (n + 1) → Q r h') : uCall Mt 60 193 [(.inr (.inr (some 69))), (.inl a1), (.inl a2), (.inl a3), (.inl a4)] h kc ks Q :=
  sf_X12_comet (d := 57) hG.1 hG.2.1 a1 a2 a3 a4 (fun r h2 hr hO hu q0 q1 => hQ r h2 hr (hG.uX hO hu q1 (by decide) (by decide)))
theorem cA_2 {n kc ks : Nat} {h : aH} {Q : Option aV → aH → Prop} (hG : GH R1 R2 h n) (a1 : Int32) (a2 : Int32) (hQ : ∀ r h', (∃ x : Int32, r = some (.inl x)) → GH R1 R2 h' (n + 1) → Q r h') : uCall Mt 60 126 [(.inr (.inr (some 0))), (.inl a1), (.inl a2)] h kc ks Q :=
  sf_X11_ofComet (d := 58) hG.1 a1 a2 (fun r hr => hQ r _ hr hG.rf)
theorem mA_2 {n kc ks : Nat} {h : aH} {Q : Option aV → aH → Prop} (hG : GH R1 R2 h n) (a1 : Int32) (a2 : Int32) (hQ : ∀ r h', (∃ x : Int32, r = some (.inl x)) → GH R1 R2 h' (n + 1) → Q r h') : uCall Mt 60 194 [(.inr (.inr (some 69))), (.inl a1), (.inl a2)] h kc ks Q :=
  sf_X12_ofComet (d := 57) hG.1 a1 a2 (fun r hr => hQ r _ hr hG.rf)
theorem cA_3 {n kc ks : Nat} {h : aH} {Q : Option aV → aH → Prop} (hG : GH R1 R2 h n) (a1 : Int32) (a2 : Int32) (a3 : Int32) (hQ : ∀ r h', (∃ x : Int32, r = some (.inl x)) → GH R1 R2 h' (n + 1) → Q r h') : uCall Mt 60 127 [(.inr (.inr (some 0))), (.inl a1), (.inl a2), (.inl a3)] h kc ks Q :=
  sf_X11_pass (d := 56) hG.1 a1 a2 a3 (fun r hr => hQ r _ hr hG.rf)
theorem mA_3 {n kc ks : Nat} {h : aH} {Q : Option aV → aH → Prop} (hG : GH R1 R2 h n) (a1 : Int32) (a2 : Int32) (a3 : Int32) (hQ : ∀ r h', (∃ x : Int32, r = some (.inl x)) → GH R1 R2 h' (n + 1) → Q r h') : uCall Mt 60 202 [(.inr (.inr (some 69))), (.inl a1), (.inl a2), (.inl a3)] h kc ks Q :=
  sf_X12_pass (d := 55) hG.1 hG.2.1 a1 a2 a3 (fun r h2 hr hO hu => hQ r h2 hr (hG.ok hO hu (by decide) (by decide) (by decide)))
theorem cA_4 {n kc ks : Nat} {h : aH} {Q : Option aV → aH → Prop} (hG : GH R1 R2 h n) (a1 : Int32) (a2 : Int32) (a3 : Int32) (a4 : Int32) (hQ : ∀ r h', (∃ x : Int32, r = some (.inl x)) → GH R1 R2 h' (n + 1) → Q r h') : uCall Mt 60 128 [(.inr (.inr (some 0))), (.inl a1), (.inl a2), (.inl a3), (.inl a4)] h kc ks Q :=
  sf_X11_stands (d := 55) hG.1 a1 a2 a3 a4 (fun r h2 hr hO hu => hQ r h2 hr (hG.ok hO hu (by decide) (by decide) (by decide)))
theorem mA_4 {n kc ks : Nat} {h : aH} {Q : Option aV → aH → Prop} (hG : GH R1 R2 h n) (a1 : Int32) (a2 : Int32) (a3 : Int32) (a4 : Int32) (hQ : ∀ r h', (∃ x : Int32, r = some (.inl x)) → GH R1 R2 h' (n + 1) → Q r h') : uCall Mt 60 209 [(.inr (.inr (some 69))), (.inl a1), (.inl a2), (.inl a3), (.inl a4)] h kc ks Q :=
  sf_X12_stands (d := 54) hG.1 hG.2.1 a1 a2 a3 a4 (fun r h2 hr hO hu => hQ r h2 hr (hG.ok hO hu (by decide) (by decide) (by decide)))
theorem cA_5 {n kc ks : Nat} {h : aH} {Q : Option aV → aH → Prop} (hG : GH R1 R2 h n) (a1 : Int32) (a2 : Int32) (a3 : Int32) (hQ : ∀ r h', (∃ x : Int32, r = some (.inl x)) → GH R1 R2 h' (n + 1) → Q r h') : uCall Mt 60 129 [(.inr (.inr (some 0))), (.inl a1), (.inl a2), (.inl a3)] h kc ks Q :=
  sf_X11_seen (d := 55) hG.1 a1 a2 a3 (fun r h2 hr hO hu => hQ r h2 hr (hG.ok hO hu (by decide) (by decide) (by decide)))
theorem mA_5 {n kc ks : Nat} {h : aH} {Q : Option aV → aH → Prop} (hG : GH R1 R2 h n) (a1 : Int32) (a2 : Int32) (a3 : Int32) (hQ : ∀ r h', (∃ x : Int32, r = some (.inl x)) → GH R1 R2 h' (n + 1) → Q r h') : uCall Mt 60 211 [(.inr (.inr (some 69))), (.inl a1), (.inl a2), (.inl a3)] h kc ks Q :=
  sf_X12_seen (d := 53) hG.1 hG.2.1 a1 a2 a3 (fun r h2 hr hO hu => hQ r h2 hr (hG.ok hO hu (by decide) (by decide) (by decide)))
theorem cA_6 {n kc ks : Nat} {h : aH} {Q : Option aV → aH → Prop} (hG : GH R1 R2 h n) (a1 : Int32) (a2 : Int32) (hQ : ∀ r h', (∃ x : Int32, r = some (.inl x)) → GH R1 R2 h' (n + 1) → Q r h') : uCall Mt 60 130 [(.inr (.inr (some 0))), (.inl a1), (.inl a2)] h kc ks Q :=
  sf_X11_feed (d := 58) hG.1 a1 a2 (fun r h2 hr hO hu => hQ r h2 hr (hG.ok hO hu (by decide) (by decide) (by decide)))
theorem mA_6 {n kc ks : Nat} {h : aH} {Q : Option aV → aH → Prop} (hG : GH R1 R2 h n) (a1 : Int32) (a2 : Int32) (hQ : ∀ r h', (∃ x : Int32, r = some (.inl x)) → GH R1 R2 h' (n + 1) → Q r h') : uCall Mt 60 212 [(.inr (.inr (some 69))), (.inl a1), (.inl a2)] h kc ks Q :=
  sf_X12_feed (d := 58) hG.1 a1 a2 (fun r h2 hr hO hu => hQ r h2 hr (hG.ok hO hu (by decide) (by decide) (by decide)))
theorem cA_7 {n kc ks : Nat} {h : aH} {Q : Option aV → aH → Prop} (hG : GH R1 R2 h n) (a1 : Int32) (hQ : ∀ r h', (∃ x : Int32, r = some (.inl x)) → GH R1 R2 h' (n + 1) → Q r h') : uCall Mt 60 131 [(.inr (.inr (some 0))), (.inl a1)] h kc ks Q :=
  sf_X11_text (d := 12) hG.1 a1 (fun r h2 hr hO hu => hQ r h2 hr (hG.ok hO hu (by decide) (by decide) (by decide)))
theorem mA_7 {n kc ks : Nat} {h : aH} {Q : Option aV → aH → Prop} (hG : GH R1 R2 h n) (a1 : Int32) (hQ : ∀ r h', (∃ x : Int32, r = some (.inl x)) → GH R1 R2 h' (n + 1) → Q r h') : uCall Mt 60 227 [(.inr (.inr (some 69))), (.inl a1)] h kc ks Q :=
  sf_X12_text (d := 13) hG.1 hG.2.1 a1 (fun r h2 hr hO hu q0 => hQ r h2 hr (hG.uX hO hu q0 (by decide) (by decide)))
theorem cA_8 {n kc ks : Nat} {h : aH} {Q : Option aV → aH → Prop} (hG : GH R1 R2 h n) (a1 : Int32) (a2 : Int32) (a3 : Int32) (hQ : ∀ r h', (∃ x : Int32, r = some (.inl x)) → GH R1 R2 h' (n + 1) → Q r h') : uCall Mt 60 132 [(.inr (.inr (some 0))), (.inl a1), (.inl a2), (.inl a3)] h kc ks Q :=
  sf_X11_reign (d := 53) hG.1 a1 a2 a3 (fun r h2 hr hO hu => hQ r h2 hr (hG.ok hO hu (by decide) (by decide) (by decide)))
theorem mA_8 {n kc ks : Nat} {h : aH} {Q : Option aV → aH → Prop} (hG : GH R1 R2 h n) (a1 : Int32) (a2 : Int32) (a3 : Int32) (hQ : ∀ r h', (∃ x : Int32, r = some (.inl x)) → GH R1 R2 h' (n + 1) → Q r h') : uCall Mt 60 231 [(.inr (.inr (some 69))), (.inl a1), (.inl a2), (.inl a3)] h kc ks Q :=
  sf_X12_reign (d := 57) hG.1 a1 a2 a3 (fun r h2 hr hO hu => hQ r h2 hr (hG.ok hO hu (by decide) (by decide) (by decide)))
theorem cA_9 {n kc ks : Nat} {h : aH} {Q : Option aV → aH → Prop} (hG : GH R1 R2 h n) (a1 : Int32) (a2 : Int32) (a3 : Int32) (hQ : ∀ r h', (∃ x : Int32, r = some (.inl x)) → GH R1 R2 h' (n + 1) → Q r h') : uCall Mt 60 133 [(.inr (.inr (some 0))), (.inl a1), (.inl a2), (.inl a3)] h kc ks Q :=
  sf_X11_watch (d := 57) hG.1 a1 a2 a3 (fun r h2 hr hO hu => hQ r h2 hr (hG.ok hO hu (by decide) (by decide) (by decide)))
theorem mA_9 {n kc ks : Nat} {h : aH} {Q : Option aV → aH → Prop} (hG : GH R1 R2 h n) (a1 : Int32) (a2 : Int32) (a3 : Int32) (hQ : ∀ r h', (∃ x : Int32, r = some (.inl x)) → GH R1 R2 h' (n + 1) → Q r h') : uCall Mt 60 232 [(.inr (.inr (some 69))), (.inl a1), (.inl a2), (.inl a3)] h kc ks Q :=
  sf_X12_watch (d := 57) hG.1 a1 a2 a3 (fun r h2 hr hO hu => hQ r h2 hr (hG.ok hO hu (by decide) (by decide) (by decide)))
theorem cA_10 {n kc ks : Nat} {h : aH} {Q : Option aV → aH → Prop} (hG : GH R1 R2 h n) (a1 : Int32) (a2 : Int32) (a3 : Int32) (hQ : ∀ r h', (∃ x : Int32, r = some (.inl x)) → GH R1 R2 h' (n + 1) → Q r h') : uCall Mt 60 134 [(.inr (.inr (some 0))), (.inl a1), (.inl a2), (.inl a3)] h kc ks Q :=
  sn_X11_word (d := 53) hG.1 a1 a2 a3 (fun r h2 hr hO hu q0 => hQ r h2 hr (hG.gn hO hu (hG.2.1.un hG.1 hO hu (by decide)) (by have := hu.nC (by decide); omega) (by omega)))
theorem mA_10 {n kc ks : Nat} {h : aH} {Q : Option aV → aH → Prop} (hG : GH R1 R2 h n) (a1 : Int32) (a2 : Int32) (a3 : Int32) (hQ : ∀ r h', (∃ x : Int32, r = some (.inl x)) → GH R1 R2 h' (n + 1) → Q r h') : uCall Mt 60 239 [(.inr (.inr (some 69))), (.inl a1), (.inl a2), (.inl a3)] h kc ks Q :=
  sf_X12_word (d := 57) hG.1 hG.2.1 a1 a2 a3 (fun r h2 hr hO hu q0 q1 => hQ r h2 hr (hG.uX hO hu q1 (by decide) (by decide)))
theorem cA_11 {n kc ks : Nat} {h : aH} {Q : Option aV → aH → Prop} (hG : GH R1 R2 h n) (a1 : Int32) (a2 : Int32) (a3 : Int32) (hQ : ∀ r h', (∃ x : Int32, r = some (.inl x)) → GH R1 R2 h' (n + 1) → Q r h') : uCall Mt 60 135 [(.inr (.inr (some 0))), (.inl a1), (.inl a2), (.inl a3)] h kc ks Q :=
  sd_X11_date (d := 57) hG.1 a1 a2 a3 (fun r h2 hr hO hu => hQ r h2 (by obtain ⟨x, e, _⟩ := hr; exact ⟨x, e⟩) (hG.ok hO hu (by decide) (by decide) (by decide)))
theorem mA_11 {n kc ks : Nat} {h : aH} {Q : Option aV → aH → Prop} (hG : GH R1 R2 h n) (a1 : Int32) (a2 : Int32) (a3 : Int32) (hQ : ∀ r h', (∃ x : Int32, r = some (.inl x)) → GH R1 R2 h' (n + 1) → Q r h') : uCall Mt 60 237 [(.inr (.inr (some 69))), (.inl a1), (.inl a2), (.inl a3)] h kc ks Q :=
  sd_X12_date (d := 58) hG.1 a1 a2 a3 (fun r h2 hr hO hu => hQ r h2 (by obtain ⟨x, e, _⟩ := hr; exact ⟨x, e⟩) (hG.ok hO hu (by decide) (by decide) (by decide)))
theorem cA_12 {n kc ks : Nat} {h : aH} {Q : Option aV → aH → Prop} (hG : GH R1 R2 h n) (a1 : Int32) (a2 : Int32) (a3 : Int32) (a4 : Int32) (hQ : ∀ r h', (∃ x : Int32, r = some (.inl x)) → GH R1 R2 h' (n + 1) → Q r h') : uCall Mt 60 136 [(.inr (.inr (some 0))), (.inl a1), (.inl a2), (.inl a3), (.inl a4)] h kc ks Q :=
  sn_X11_words (d := 52) hG.1 a1 a2 a3 a4 (fun r h2 hr hO hu q0 => hQ r h2 hr (hG.gn hO hu (hG.2.1.un hG.1 hO hu (by decide)) (by have := hu.nC (by decide); omega) (by omega)))
theorem mA_12 {n kc ks : Nat} {h : aH} {Q : Option aV → aH → Prop} (hG : GH R1 R2 h n) (a1 : Int32) (a2 : Int32) (a3 : Int32) (a4 : Int32) (hQ : ∀ r h', (∃ x : Int32, r = some (.inl x)) → GH R1 R2 h' (n + 1) → Q r h') : uCall Mt 60 240 [(.inr (.inr (some 69))), (.inl a1), (.inl a2), (.inl a3), (.inl a4)] h kc ks Q :=
  sf_X12_words (d := 57) hG.1 hG.2.1 a1 a2 a3 a4 (fun r h2 hr hO hu q0 q1 => hQ r h2 hr (hG.uX hO hu q1 (by decide) (by decide)))
theorem cA_13 {n kc ks : Nat} {h : aH} {Q : Option aV → aH → Prop} (hG : GH R1 R2 h n) (a1 : Int32) (a2 : Int32) (hQ : ∀ r h', (∃ x : Int32, r = some (.inl x)) → GH R1 R2 h' (n + 1) → Q r h') : uCall Mt 60 137 [(.inr (.inr (some 0))), (.inl a1), (.inl a2)] h kc ks Q :=
  sf_X11_ofWord (d := 58) hG.1 a1 a2 (fun r hr => hQ r _ hr hG.rf)
theorem mA_13 {n kc ks : Nat} {h : aH} {Q : Option aV → aH → Prop} (hG : GH R1 R2 h n) (a1 : Int32) (a2 : Int32) (hQ : ∀ r h', (∃ x : Int32, r = some (.inl x)) → GH R1 R2 h' (n + 1) → Q r h') : uCall Mt 60 243 [(.inr (.inr (some 69))), (.inl a1), (.inl a2)] h kc ks Q :=
  sf_X12_ofWord (d := 57) hG.1 hG.2.1 a1 a2 (fun r hr => hQ r _ hr hG.rf)
theorem cA_14 {n kc ks : Nat} {h : aH} {Q : Option aV → aH → Prop} (hG : GH R1 R2 h n) (a1 : Int32) (a2 : Int32) (a3 : Int32) (hQ : ∀ r h', (∃ x : Int32, r = some (.inl x)) → GH R1 R2 h' (n + 1) → Q r h') : uCall Mt 60 138 [(.inr (.inr (some 0))), (.inl a1), (.inl a2), (.inl a3)] h kc ks Q :=
  sf_X11_span (d := 57) hG.1 a1 a2 a3 (fun r hr => hQ r _ hr hG.rf)
theorem mA_14 {n kc ks : Nat} {h : aH} {Q : Option aV → aH → Prop} (hG : GH R1 R2 h n) (a1 : Int32) (a2 : Int32) (a3 : Int32) (hQ : ∀ r h', (∃ x : Int32, r = some (.inl x)) → GH R1 R2 h' (n + 1) → Q r h') : uCall Mt 60 245 [(.inr (.inr (some 69))), (.inl a1), (.inl a2), (.inl a3)] h kc ks Q :=
  sf_X12_span (d := 55) hG.1 hG.2.1 a1 a2 a3 (fun r h2 hr hO hu => hQ r h2 hr (hG.ok hO hu (by decide) (by decide) (by decide)))
theorem cA_15 {n kc ks : Nat} {h : aH} {Q : Option aV → aH → Prop} (hG : GH R1 R2 h n) (a1 : Int32) (a2 : Int32) (a3 : Int32) (hQ : ∀ r h', (∃ x : Int32, r = some (.inl x)) → GH R1 R2 h' (n + 1) → Q r h') : uCall Mt 60 139 [(.inr (.inr (some 0))), (.inl a1), (.inl a2), (.inl a3)] h kc ks Q :=
  sf_X11_fits (d := 53) hG.1 a1 a2 a3 (fun r h2 hr hO hu => hQ r h2 hr (hG.ok hO hu (by decide) (by decide) (by decide)))
theorem mA_15 {n kc ks : Nat} {h : aH} {Q : Option aV → aH → Prop} (hG : GH R1 R2 h n) (a1 : Int32) (a2 : Int32) (a3 : Int32) (hQ : ∀ r h', (∃ x : Int32, r = some (.inl x)) → GH R1 R2 h' (n + 1) → Q r h') : uCall Mt 60 252 [(.inr (.inr (some 69))), (.inl a1), (.inl a2), (.inl a3)] h kc ks Q :=
  sf_X12_fits (d := 52) hG.1 hG.2.1 a1 a2 a3 (fun r h2 hr hO hu => hQ r h2 hr (hG.ok hO hu (by decide) (by decide) (by decide)))
theorem cA_16 {n kc ks : Nat} {h : aH} {Q : Option aV → aH → Prop} (hG : GH R1 R2 h n) (a1 : Int32) (a2 : Int32) (a3 : Int32) (hQ : ∀ r h', (∃ x : Int32, r = some (.inl x)) → GH R1 R2 h' (n + 1) → Q r h') : uCall Mt 60 140 [(.inr (.inr (some 0))), (.inl a1), (.inl a2), (.inl a3)] h kc ks Q :=
  sf_X11_perhaps (d := 52) hG.1 a1 a2 a3 (fun r h2 hr hO hu => hQ r h2 hr (hG.ok hO hu (by decide) (by decide) (by decide)))
theorem mA_16 {n kc ks : Nat} {h : aH} {Q : Option aV → aH → Prop} (hG : GH R1 R2 h n) (a1 : Int32) (a2 : Int32) (a3 : Int32) (hQ : ∀ r h', (∃ x : Int32, r = some (.inl x)) → GH R1 R2 h' (n + 1) → Q r h') : uCall Mt 60 253 [(.inr (.inr (some 69))), (.inl a1), (.inl a2), (.inl a3)] h kc ks Q :=
  sf_X12_perhaps (d := 52) hG.1 hG.2.1 a1 a2 a3 (fun r h2 hr hO hu => hQ r h2 hr (hG.ok hO hu (by decide) (by decide) (by decide)))
theorem cA_17 {n kc ks : Nat} {h : aH} {Q : Option aV → aH → Prop} (hG : GH R1 R2 h n) (a1 : Int32) (a2 : Int32) (hQ : ∀ r h', (∃ x : Int32, r = some (.inl x)) → GH R1 R2 h' (n + 1) → Q r h') : uCall Mt 60 141 [(.inr (.inr (some 0))), (.inl a1), (.inl a2)] h kc ks Q :=
  sf_X11_whose (d := 53) hG.1 a1 a2 (fun r h2 hr hO hu => hQ r h2 hr (hG.ok hO hu (by decide) (by decide) (by decide)))
theorem mA_17 {n kc ks : Nat} {h : aH} {Q : Option aV → aH → Prop} (hG : GH R1 R2 h n) (a1 : Int32) (a2 : Int32) (hQ : ∀ r h', (∃ x : Int32, r = some (.inl x)) → GH R1 R2 h' (n + 1) → Q r h') : uCall Mt 60 255 [(.inr (.inr (some 69))), (.inl a1), (.inl a2)] h kc ks Q :=
  sf_X12_whose (d := 51) hG.1 hG.2.1 a1 a2 (fun r h2 hr hO hu => hQ r h2 hr (hG.ok hO hu (by decide) (by decide) (by decide)))
theorem cA_18 {n kc ks : Nat} {h : aH} {Q : Option aV → aH → Prop} (hG : GH R1 R2 h n) (a1 : Int32) (a2 : Int32) (hQ : ∀ r h', (∃ x : Int32, r = some (.inl x)) → GH R1 R2 h' (n + 1) → Q r h') : uCall Mt 60 142 [(.inr (.inr (some 0))), (.inl a1), (.inl a2)] h kc ks Q :=
  sf_X11_evening (d := 56) hG.1 a1 a2 (fun r hr => hQ r _ hr hG.rf)
theorem mA_18 {n kc ks : Nat} {h : aH} {Q : Option aV → aH → Prop} (hG : GH R1 R2 h n) (a1 : Int32) (a2 : Int32) (hQ : ∀ r h', (∃ x : Int32, r = some (.inl x)) → GH R1 R2 h' (n + 1) → Q r h') : uCall Mt 60 256 [(.inr (.inr (some 69))), (.inl a1), (.inl a2)] h kc ks Q :=
  sf_X12_evening (d := 55) hG.1 hG.2.1 a1 a2 (fun r h2 hr hO hu => hQ r h2 hr (hG.ok hO hu (by decide) (by decide) (by decide)))
theorem cA_19 {n kc ks : Nat} {h : aH} {Q : Option aV → aH → Prop} (hG : GH R1 R2 h n) (a1 : Int32) (a2 : Int32) (hQ : ∀ r h', (∃ x : Int32, r = some (.inl x)) → GH R1 R2 h' (n + 1) → Q r h') : uCall Mt 60 143 [(.inr (.inr (some 0))), (.inl a1), (.inl a2)] h kc ks Q :=
  sf_X11_behind (d := 52) hG.1 a1 a2 (fun r h2 hr hO hu => hQ r h2 hr (hG.ok hO hu (by decide) (by decide) (by decide)))
theorem mA_19 {n kc ks : Nat} {h : aH} {Q : Option aV → aH → Prop} (hG : GH R1 R2 h n) (a1 : Int32) (a2 : Int32) (hQ : ∀ r h', (∃ x : Int32, r = some (.inl x)) → GH R1 R2 h' (n + 1) → Q r h') : uCall Mt 60 258 [(.inr (.inr (some 69))), (.inl a1), (.inl a2)] h kc ks Q :=
  sf_X12_behind (d := 51) hG.1 hG.2.1 a1 a2 (fun r h2 hr hO hu => hQ r h2 hr (hG.ok hO hu (by decide) (by decide) (by decide)))
theorem cA_20 {n kc ks : Nat} {h : aH} {Q : Option aV → aH → Prop} (hG : GH R1 R2 h n) (a1 : Int32) (hQ : ∀ r h', (∃ x : Int32, r = some (.inl x)) → GH R1 R2 h' (n + 1) → Q r h') : uCall Mt 60 144 [(.inr (.inr (some 0))), (.inl a1)] h kc ks Q :=
  sf_X11_once (d := 57) hG.1 a1 (fun r h2 hr hO hu => hQ r h2 hr (hG.ok hO hu (by decide) (by decide) (by decide)))
theorem mA_20 {n kc ks : Nat} {h : aH} {Q : Option aV → aH → Prop} (hG : GH R1 R2 h n) (a1 : Int32) (hQ : ∀ r h', (∃ x : Int32, r = some (.inl x)) → GH R1 R2 h' (n + 1) → Q r h') : uCall Mt 60 259 [(.inr (.inr (some 69))), (.inl a1)] h kc ks Q :=
  sf_X12_once (d := 58) hG.1 hG.2.1 a1 (fun r h2 hr hO hu => hQ r h2 hr (hG.ok hO hu (by decide) (by decide) (by decide)))
theorem cA_21 {n kc ks : Nat} {h : aH} {Q : Option aV → aH → Prop} (hG : GH R1 R2 h n) (a1 : Int32) (hQ : ∀ r h', (∃ x : Int32, r = some (.inl x)) → GH R1 R2 h' (n + 1) → Q r h') : uCall Mt 60 145 [(.inr (.inr (some 0))), (.inl a1)] h kc ks Q :=
  sf_X11_judge (d := 52) hG.1 a1 (fun r h2 hr hO hu => hQ r h2 hr (hG.ok hO hu (by decide) (by decide) (by decide)))
theorem mA_21 {n kc ks : Nat} {h : aH} {Q : Option aV → aH → Prop} (hG : GH R1 R2 h n) (a1 : Int32) (hQ : ∀ r h', (∃ x : Int32, r = some (.inl x)) → GH R1 R2 h' (n + 1) → Q r h') : uCall Mt 60 264 [(.inr (.inr (some 69))), (.inl a1)] h kc ks Q :=
  sf_X12_judge (d := 50) hG.1 hG.2.1 a1 (fun r h2 hr hO hu => hQ r h2 hr (hG.ok hO hu (by decide) (by decide) (by decide)))
theorem cA_22 {n kc ks : Nat} {h : aH} {Q : Option aV → aH → Prop} (hG : GH R1 R2 h n) (a1 : Int32) (hQ : ∀ r h', (∃ x : Int32, r = some (.inl x)) → GH R1 R2 h' (n + 1) → Q r h') : uCall Mt 60 146 [(.inr (.inr (some 0))), (.inl a1)] h kc ks Q :=
  sf_X11_best (d := 52) hG.1 a1 (fun r h2 hr hO hu => hQ r h2 hr (hG.ok hO hu (by decide) (by decide) (by decide)))
theorem mA_22 {n kc ks : Nat} {h : aH} {Q : Option aV → aH → Prop} (hG : GH R1 R2 h n) (a1 : Int32) (hQ : ∀ r h', (∃ x : Int32, r = some (.inl x)) → GH R1 R2 h' (n + 1) → Q r h') : uCall Mt 60 266 [(.inr (.inr (some 69))), (.inl a1)] h kc ks Q :=
  sf_X12_best (d := 50) hG.1 hG.2.1 a1 (fun r h2 hr hO hu => hQ r h2 hr (hG.ok hO hu (by decide) (by decide) (by decide)))
theorem cA_23 {n kc ks : Nat} {h : aH} {Q : Option aV → aH → Prop} (hG : GH R1 R2 h n) (a1 : Int32) (a2 : Int32) (hQ : ∀ r h', (∃ x : Int32, r = some (.inl x)) → GH R1 R2 h' (n + 1) → Q r h') : uCall Mt 60 147 [(.inr (.inr (some 0))), (.inl a1), (.inl a2)] h kc ks Q :=
  sf_X11_observed (d := 57) hG.1 a1 a2 (fun r h2 hr hO hu => hQ r h2 hr (hG.ok hO hu (by decide) (by decide) (by decide)))
theorem mA_23 {n kc ks : Nat} {h : aH} {Q : Option aV → aH → Prop} (hG : GH R1 R2 h n) (a1 : Int32) (a2 : Int32) (hQ : ∀ r h', (∃ x : Int32, r = some (.inl x)) → GH R1 R2 h' (n + 1) → Q r h') : uCall Mt 60 267 [(.inr (.inr (some 69))), (.inl a1), (.inl a2)] h kc ks Q :=
  sf_X12_observed (d := 57) hG.1 a1 a2 (fun r h2 hr hO hu => hQ r h2 hr (hG.ok hO hu (by decide) (by decide) (by decide)))
theorem cA_24 {n kc ks : Nat} {h : aH} {Q : Option aV → aH → Prop} (hG : GH R1 R2 h n) (a1 : Int32) (a2 : Int32) (a3 : Int32) (hQ : ∀ r h', (∃ x : Int32, r = some (.inl x)) → GH R1 R2 h' (n + 1) → Q r h') : uCall Mt 60 148 [(.inr (.inr (some 0))), (.inl a1), (.inl a2), (.inl a3)] h kc ks Q :=
  sf_X11_paths (d := 55) hG.1 a1 a2 a3 (fun r hr => hQ r _ hr hG.rf)
theorem mA_24 {n kc ks : Nat} {h : aH} {Q : Option aV → aH → Prop} (hG : GH R1 R2 h n) (a1 : Int32) (a2 : Int32) (a3 : Int32) (hQ : ∀ r h', (∃ x : Int32, r = some (.inl x)) → GH R1 R2 h' (n + 1) → Q r h') : uCall Mt 60 270 [(.inr (.inr (some 69))), (.inl a1), (.inl a2), (.inl a3)] h kc ks Q :=
  sf_X12_paths (d := 56) hG.1 a1 a2 a3 (fun r hr => hQ r _ hr hG.rf)
theorem cA_25 {n kc ks : Nat} {h : aH} {Q : Option aV → aH → Prop} (hG : GH R1 R2 h n) (hQ : ∀ r h', (∃ x : Int32, r = some (.inl x)) → GH R1 R2 h' (n + 1) → Q r h') : uCall Mt 60 149 [(.inr (.inr (some 0)))] h kc ks Q :=
  sf_X11_forget (d := 59) hG.1  (fun r h2 hr hO hu => hQ r h2 hr (hG.ok hO hu (by decide) (by decide) (by decide)))
theorem mA_25 {n kc ks : Nat} {h : aH} {Q : Option aV → aH → Prop} (hG : GH R1 R2 h n) (hQ : ∀ r h', (∃ x : Int32, r = some (.inl x)) → GH R1 R2 h' (n + 1) → Q r h') : uCall Mt 60 268 [(.inr (.inr (some 69)))] h kc ks Q :=
  sf_X12_forget (d := 59) hG.1  (fun r h2 hr hO hu => hQ r h2 hr (hG.ok hO hu (by decide) (by decide) (by decide)))
theorem cA_26 {n kc ks : Nat} {h : aH} {Q : Option aV → aH → Prop} (hG : GH R1 R2 h n) (a1 : Int32) (a2 : Int32) (a3 : Int32) (hQ : ∀ r h', (∃ x : Int32, r = some (.inl x)) → GH R1 R2 h' (n + 1) → Q r h') : uCall Mt 60 150 [(.inr (.inr (some 0))), (.inl a1), (.inl a2), (.inl a3)] h kc ks Q :=
  sf_X11_alike (d := 57) hG.1 a1 a2 a3 (fun r hr => hQ r _ hr hG.rf)
theorem mA_26 {n kc ks : Nat} {h : aH} {Q : Option aV → aH → Prop} (hG : GH R1 R2 h n) (a1 : Int32) (a2 : Int32) (a3 : Int32) (hQ : ∀ r h', (∃ x : Int32, r = some (.inl x)) → GH R1 R2 h' (n + 1) → Q r h') : uCall Mt 60 271 [(.inr (.inr (some 69))), (.inl a1), (.inl a2), (.inl a3)] h kc ks Q :=
  sf_X12_alike (d := 57) hG.1 a1 a2 a3 (fun r hr => hQ r _ hr hG.rf)
theorem cA_27 {n kc ks : Nat} {h : aH} {Q : Option aV → aH → Prop} (hG : GH R1 R2 h n) (a1 : Int32) (a2 : Int32) (a3 : Int32) (hQ : ∀ r h', (∃ x : Int32, r = some (.inl x)) → GH R1 R2 h' (n + 1) → Q r h') : uCall Mt 60 151 [(.inr (.inr (some 0))), (.inl a1), (.inl a2), (.inl a3)] h kc ks Q :=
  sf_X11_chance (d := 56) hG.1 a1 a2 a3 (fun r hr => hQ r _ hr hG.rf)
theorem mA_27 {n kc ks : Nat} {h : aH} {Q : Option aV → aH → Prop} (hG : GH R1 R2 h n) (a1 : Int32) (a2 : Int32) (a3 : Int32) (hQ : ∀ r h', (∃ x : Int32, r = some (.inl x)) → GH R1 R2 h' (n + 1) → Q r h') : uCall Mt 60 273 [(.inr (.inr (some 69))), (.inl a1), (.inl a2), (.inl a3)] h kc ks Q :=
  sf_X12_chance (d := 57) hG.1 a1 a2 a3 (fun r h2 hr hO hu => hQ r h2 hr (hG.ok hO hu (by decide) (by decide) (by decide)))
theorem cA_28 {n kc ks : Nat} {h : aH} {Q : Option aV → aH → Prop} (hG : GH R1 R2 h n) (a1 : Int32) (a2 : Int32) (a3 : Int32) (a4 : Int32) (hQ : ∀ r h', (∃ x : Int32, r = some (.inl x)) → GH R1 R2 h' (n + 1) → Q r h') : uCall Mt 60 152 [(.inr (.inr (some 0))), (.inl a1), (.inl a2), (.inl a3), (.inl a4)] h kc ks Q :=
  sf_X11_foretold (d := 56) hG.1 a1 a2 a3 a4 (fun r hr => hQ r _ hr hG.rf)
theorem mA_28 {n kc ks : Nat} {h : aH} {Q : Option aV → aH → Prop} (hG : GH R1 R2 h n) (a1 : Int32) (a2 : Int32) (a3 : Int32) (a4 : Int32) (hQ : ∀ r h', (∃ x : Int32, r = some (.inl x)) → GH R1 R2 h' (n + 1) → Q r h') : uCall Mt 60 275 [(.inr (.inr (some 69))), (.inl a1), (.inl a2), (.inl a3), (.inl a4)] h kc ks Q :=
  sf_X12_foretold (d := 56) hG.1 hG.2.1 a1 a2 a3 a4 (fun r hr => hQ r _ hr hG.rf)
theorem cA_29 {n kc ks : Nat} {h : aH} {Q : Option aV → aH → Prop} (hG : GH R1 R2 h n) (a1 : Int32) (a2 : Int32) (a3 : Int32) (hQ : ∀ r h', (∃ x : Int32, r = some (.inl x)) → GH R1 R2 h' (n + 1) → Q r h') : uCall Mt 60 153 [(.inr (.inr (some 0))), (.inl a1), (.inl a2), (.inl a3)] h kc ks Q :=
  sf_X11_right (d := 52) hG.1 a1 a2 a3 (fun r h2 hr hO hu => hQ r h2 hr (hG.ok hO hu (by decide) (by decide) (by decide)))
theorem mA_29 {n kc ks : Nat} {h : aH} {Q : Option aV → aH → Prop} (hG : GH R1 R2 h n) (a1 : Int32) (a2 : Int32) (a3 : Int32) (hQ : ∀ r h', (∃ x : Int32, r = some (.inl x)) → GH R1 R2 h' (n + 1) → Q r h') : uCall Mt 60 277 [(.inr (.inr (some 69))), (.inl a1), (.inl a2), (.inl a3)] h kc ks Q :=
  sf_X12_right (d := 50) hG.1 hG.2.1 a1 a2 a3 (fun r h2 hr hO hu => hQ r h2 hr (hG.ok hO hu (by decide) (by decide) (by decide)))
theorem cA_30 {n kc ks : Nat} {h : aH} {Q : Option aV → aH → Prop} (hG : GH R1 R2 h n) (a1 : Int32) (a2 : Int32) (hQ : ∀ r h', (∃ x : Int32, r = some (.inl x)) → GH R1 R2 h' (n + 1) → Q r h') : uCall Mt 60 154 [(.inr (.inr (some 0))), (.inl a1), (.inl a2)] h kc ks Q :=
  sn_X11_broke (d := 53) hG.1 a1 a2 (fun r h2 hr hO hu q0 => hQ r h2 hr (hG.gn hO hu (hG.2.1.un hG.1 hO hu (by decide)) (by omega) (by have := hu.nW (by decide); omega)))
theorem mA_30 {n kc ks : Nat} {h : aH} {Q : Option aV → aH → Prop} (hG : GH R1 R2 h n) (a1 : Int32) (a2 : Int32) (hQ : ∀ r h', (∃ x : Int32, r = some (.inl x)) → GH R1 R2 h' (n + 1) → Q r h') : uCall Mt 60 278 [(.inr (.inr (some 69))), (.inl a1), (.inl a2)] h kc ks Q :=
  sf_X12_broke (d := 55) hG.1 hG.2.1 a1 a2 (fun r h2 hr hO hu q0 q1 => hQ r h2 hr (hG.uX hO hu q1 (by decide) (by decide)))
theorem cA_31 {n kc ks : Nat} {h : aH} {Q : Option aV → aH → Prop} (hG : GH R1 R2 h n) (a1 : Int32) (hQ : ∀ r h', (∃ x : Int32, r = some (.inl x)) → GH R1 R2 h' (n + 1) → Q r h') : uCall Mt 60 155 [(.inr (.inr (some 0))), (.inl a1)] h kc ks Q :=
  sf_X11_kin (d := 56) hG.1 a1 (fun r hr => hQ r _ hr hG.rf)
theorem mA_31 {n kc ks : Nat} {h : aH} {Q : Option aV → aH → Prop} (hG : GH R1 R2 h n) (a1 : Int32) (hQ : ∀ r h', (∃ x : Int32, r = some (.inl x)) → GH R1 R2 h' (n + 1) → Q r h') : uCall Mt 60 280 [(.inr (.inr (some 69))), (.inl a1)] h kc ks Q :=
  sf_X12_kin (d := 57) hG.1 hG.2.1 a1 (fun r hr => hQ r _ hr hG.rf)
theorem cA_32 {n kc ks : Nat} {h : aH} {Q : Option aV → aH → Prop} (hG : GH R1 R2 h n) (a1 : Int32) (a2 : Int32) (a3 : Int32) (hQ : ∀ r h', (∃ x : Int32, r = some (.inl x)) → GH R1 R2 h' (n + 1) → Q r h') : uCall Mt 60 156 [(.inr (.inr (some 0))), (.inl a1), (.inl a2), (.inl a3)] h kc ks Q :=
  sf_X11_next (d := 52) hG.1 a1 a2 a3 (fun r h2 hr hO hu => hQ r h2 hr (hG.ok hO hu (by decide) (by decide) (by decide)))
theorem mA_32 {n kc ks : Nat} {h : aH} {Q : Option aV → aH → Prop} (hG : GH R1 R2 h n) (a1 : Int32) (a2 : Int32) (a3 : Int32) (hQ : ∀ r h', (∃ x : Int32, r = some (.inl x)) → GH R1 R2 h' (n + 1) → Q r h') : uCall Mt 60 282 [(.inr (.inr (some 69))), (.inl a1), (.inl a2), (.inl a3)] h kc ks Q :=
  sf_X12_next (d := 52) hG.1 hG.2.1 a1 a2 a3 (fun r h2 hr hO hu => hQ r h2 hr (hG.ok hO hu (by decide) (by decide) (by decide)))
theorem cA_33 {n kc ks : Nat} {h : aH} {Q : Option aV → aH → Prop} (hG : GH R1 R2 h n) (a1 : Int32) (a2 : Int32) (a3 : Int32) (hQ : ∀ r h', (∃ x : Int32, r = some (.inl x)) → GH R1 R2 h' (n + 1) → Q r h') : uCall Mt 60 157 [(.inr (.inr (some 0))), (.inl a1), (.inl a2), (.inl a3)] h kc ks Q :=
  sf_X11_act (d := 6) hG.1 a1 a2 a3 (fun r h2 hr hO hu => hQ r h2 hr (hG.ok hO hu (by decide) (by decide) (by decide)))
theorem mA_33 {n kc ks : Nat} {h : aH} {Q : Option aV → aH → Prop} (hG : GH R1 R2 h n) (a1 : Int32) (a2 : Int32) (a3 : Int32) (hQ : ∀ r h', (∃ x : Int32, r = some (.inl x)) → GH R1 R2 h' (n + 1) → Q r h') : uCall Mt 60 293 [(.inr (.inr (some 69))), (.inl a1), (.inl a2), (.inl a3)] h kc ks Q :=
  sf_X12_act (d := 51) hG.1 a1 a2 a3 (fun r h2 hr hO hu => hQ r h2 hr (hG.ok hO hu (by decide) (by decide) (by decide)))
theorem cA_34 {n kc ks : Nat} {h : aH} {Q : Option aV → aH → Prop} (hG : GH R1 R2 h n) (a1 : Int32) (hQ : ∀ r h', (∃ x : Int32, r = some (.inl x)) → GH R1 R2 h' (n + 1) → Q r h') : uCall Mt 60 158 [(.inr (.inr (some 0))), (.inl a1)] h kc ks Q :=
  sf_X11_trace (d := 58) hG.1 a1 (fun r hr => hQ r _ hr hG.rf)
theorem mA_34 {n kc ks : Nat} {h : aH} {Q : Option aV → aH → Prop} (hG : GH R1 R2 h n) (a1 : Int32) (hQ : ∀ r h', (∃ x : Int32, r = some (.inl x)) → GH R1 R2 h' (n + 1) → Q r h') : uCall Mt 60 294 [(.inr (.inr (some 69))), (.inl a1)] h kc ks Q :=
  sf_X12_trace (d := 59) hG.1 a1 (fun r hr => hQ r _ hr hG.rf)
theorem cA_35 {n kc ks : Nat} {h : aH} {Q : Option aV → aH → Prop} (hG : GH R1 R2 h n) (a1 : Int32) (a2 : Int32) (hQ : ∀ r h', (∃ x : Int32, r = some (.inl x)) → GH R1 R2 h' (n + 1) → Q r h') : uCall Mt 60 159 [(.inr (.inr (some 0))), (.inl a1), (.inl a2)] h kc ks Q :=
  sf_X11_keep (d := 56) hG.1 a1 a2 (fun r h2 hr hO hu => hQ r h2 hr (hG.ok hO hu (by decide) (by decide) (by decide)))
theorem mA_35 {n kc ks : Nat} {h : aH} {Q : Option aV → aH → Prop} (hG : GH R1 R2 h n) (a1 : Int32) (a2 : Int32) (hQ : ∀ r h', (∃ x : Int32, r = some (.inl x)) → GH R1 R2 h' (n + 1) → Q r h') : uCall Mt 60 297 [(.inr (.inr (some 69))), (.inl a1), (.inl a2)] h kc ks Q :=
  sf_X12_keep (d := 57) hG.1 a1 a2 (fun r h2 hr hO hu => hQ r h2 hr (hG.ok hO hu (by decide) (by decide) (by decide)))
theorem cA_36 {n kc ks : Nat} {h : aH} {Q : Option aV → aH → Prop} (hG : GH R1 R2 h n) (a1 : Int32) (a2 : Int32) (a3 : Int32) (hQ : ∀ r h', (∃ x : Int32, r = some (.inl x)) → GH R1 R2 h' (n + 1) → Q r h') : uCall Mt 60 160 [(.inr (.inr (some 0))), (.inl a1), (.inl a2), (.inl a3)] h kc ks Q :=
  sf_X11_row (d := 56) hG.1 a1 a2 a3 (fun r h2 hr hO hu => hQ r h2 hr (hG.ok hO hu (by decide) (by decide) (by decide)))
theorem mA_36 {n kc ks : Nat} {h : aH} {Q : Option aV → aH → Prop} (hG : GH R1 R2 h n) (a1 : Int32) (a2 : Int32) (a3 : Int32) (hQ : ∀ r h', (∃ x : Int32, r = some (.inl x)) → GH R1 R2 h' (n + 1) → Q r h') : uCall Mt 60 298 [(.inr (.inr (some 69))), (.inl a1), (.inl a2), (.inl a3)] h kc ks Q :=
  sf_X12_row (d := 57) hG.1 a1 a2 a3 (fun r h2 hr hO hu => hQ r h2 hr (hG.ok hO hu (by decide) (by decide) (by decide)))
theorem cA_37 {n kc ks : Nat} {h : aH} {Q : Option aV → aH → Prop} (hG : GH R1 R2 h n) (a1 : Int32) (a2 : Int32) (a3 : Int64) (hQ : ∀ r h', (∃ x : Int32, r = some (.inl x)) → GH R1 R2 h' (n + 1) → Q r h') : uCall Mt 60 161 [(.inr (.inr (some 0))), (.inl a1), (.inl a2), (.inr (.inl a3))] h kc ks Q :=
  sf_X11_put (d := 53) hG.1 a1 a2 a3 (fun r h2 hr hO hu => hQ r h2 hr (hG.ok hO hu (by decide) (by decide) (by decide)))
theorem mA_37 {n kc ks : Nat} {h : aH} {Q : Option aV → aH → Prop} (hG : GH R1 R2 h n) (a1 : Int32) (a2 : Int32) (a3 : Int64) (hQ : ∀ r h', (∃ x : Int32, r = some (.inl x)) → GH R1 R2 h' (n + 1) → Q r h') : uCall Mt 60 300 [(.inr (.inr (some 69))), (.inl a1), (.inl a2), (.inr (.inl a3))] h kc ks Q :=
  sf_X12_put (d := 56) hG.1 a1 a2 a3 (fun r h2 hr hO hu => hQ r h2 hr (hG.ok hO hu (by decide) (by decide) (by decide)))
theorem cA_38 {n kc ks : Nat} {h : aH} {Q : Option aV → aH → Prop} (hG : GH R1 R2 h n) (a1 : Int32) (a2 : Int32) (hQ : ∀ r h', (∃ x : Int64, r = some (.inr (.inl x))) → GH R1 R2 h' (n + 1) → Q r h') : uCall Mt 60 162 [(.inr (.inr (some 0))), (.inl a1), (.inl a2)] h kc ks Q :=
  sf_X11_element (d := 53) hG.1 a1 a2 (fun r hr => hQ r _ hr hG.rf)
theorem mA_38 {n kc ks : Nat} {h : aH} {Q : Option aV → aH → Prop} (hG : GH R1 R2 h n) (a1 : Int32) (a2 : Int32) (hQ : ∀ r h', (∃ x : Int64, r = some (.inr (.inl x))) → GH R1 R2 h' (n + 1) → Q r h') : uCall Mt 60 301 [(.inr (.inr (some 69))), (.inl a1), (.inl a2)] h kc ks Q :=
  sf_X12_element (d := 56) hG.1 a1 a2 (fun r hr => hQ r _ hr hG.rf)
theorem cA_39 {n kc ks : Nat} {h : aH} {Q : Option aV → aH → Prop} (hG : GH R1 R2 h n) (a1 : Int32) (a2 : Int32) (a3 : Int32) (a4 : Int32) (a5 : Int32) (hQ : ∀ r h', (∃ x : Int32, r = some (.inl x)) → GH R1 R2 h' (n + 1) → Q r h') : uCall Mt 60 163 [(.inr (.inr (some 0))), (.inl a1), (.inl a2), (.inl a3), (.inl a4), (.inl a5)] h kc ks Q :=
  sf_X11_shift (d := 54) hG.1 a1 a2 a3 a4 a5 (fun r h2 hr hO hu => hQ r h2 hr (hG.ok hO hu (by decide) (by decide) (by decide)))
theorem mA_39 {n kc ks : Nat} {h : aH} {Q : Option aV → aH → Prop} (hG : GH R1 R2 h n) (a1 : Int32) (a2 : Int32) (a3 : Int32) (a4 : Int32) (a5 : Int32) (hQ : ∀ r h', (∃ x : Int32, r = some (.inl x)) → GH R1 R2 h' (n + 1) → Q r h') : uCall Mt 60 302 [(.inr (.inr (some 69))), (.inl a1), (.inl a2), (.inl a3), (.inl a4), (.inl a5)] h kc ks Q :=
  sf_X12_shift (d := 57) hG.1 a1 a2 a3 a4 a5 (fun r h2 hr hO hu => hQ r h2 hr (hG.ok hO hu (by decide) (by decide) (by decide)))
theorem cA_40 {n kc ks : Nat} {h : aH} {Q : Option aV → aH → Prop} (hG : GH R1 R2 h n) (a1 : Int32) (a2 : Int32) (hQ : ∀ r h', (∃ x : Int32, r = some (.inl x)) → GH R1 R2 h' (n + 1) → Q r h') : uCall Mt 60 164 [(.inr (.inr (some 0))), (.inl a1), (.inl a2)] h kc ks Q :=
  sf_X11_taken (d := 56) hG.1 a1 a2 (fun r hr => hQ r _ hr hG.rf)
theorem mA_40 {n kc ks : Nat} {h : aH} {Q : Option aV → aH → Prop} (hG : GH R1 R2 h n) (a1 : Int32) (a2 : Int32) (hQ : ∀ r h', (∃ x : Int32, r = some (.inl x)) → GH R1 R2 h' (n + 1) → Q r h') : uCall Mt 60 303 [(.inr (.inr (some 69))), (.inl a1), (.inl a2)] h kc ks Q :=
  sf_X12_taken (d := 57) hG.1 a1 a2 (fun r hr => hQ r _ hr hG.rf)
theorem cA_41 {n kc ks : Nat} {h : aH} {Q : Option aV → aH → Prop} (hG : GH R1 R2 h n) (a1 : Int32) (hQ : ∀ r h', (∃ x : Int32, r = some (.inl x)) → GH R1 R2 h' (n + 1) → Q r h') : uCall Mt 60 165 [(.inr (.inr (some 0))), (.inl a1)] h kc ks Q :=
  sf_X11_count (d := 59) hG.1 a1 (fun r hr => hQ r _ hr hG.rf)
theorem mA_41 {n kc ks : Nat} {h : aH} {Q : Option aV → aH → Prop} (hG : GH R1 R2 h n) (a1 : Int32) (hQ : ∀ r h', (∃ x : Int32, r = some (.inl x)) → GH R1 R2 h' (n + 1) → Q r h') : uCall Mt 60 295 [(.inr (.inr (some 69))), (.inl a1)] h kc ks Q :=
  sf_X12_count (d := 59) hG.1 a1 (fun r hr => hQ r _ hr hG.rf)
end API
