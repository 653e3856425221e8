/-! THE ABSTRACT RUN, GOAL FIRST: rules for runs and calls -/
section PUR
def aMono (C : aCE) : Prop := ∀ (mi : Nat) (vs : List aV) (h : aH) (mc ms : Nat) (Q Q' : Option aV → aH → Prop), (∀ r h', Q r h' → Q' r h') → C mi vs h mc ms Q → C mi vs h mc ms Q'
theorem aStep_mono {C : aCE} (hC : aMono C) {P P' : Option aV → aH → Prop} {N N' : Nat → aF → Prop} (hP : ∀ r h, P r h → P' r h) (hN : ∀ pc f, N pc f → N' pc f) {o : aOp} {pc : Nat} {f : aF} (h : aStep C P N o pc f) : aStep C P' N' o pc f := by
  match o with
  | .inl g =>
    have h : (match g f with
      | some r => N r.1 r.2
      | none => False) := h
    show (match g f with
      | some r => N' r.1 r.2
      | none => False)
    cases hg : g f with
    | none => rw [hg] at h; exact h
    | some r => rw [hg] at h; exact hN _ _ h
  | .inr (.inl q) =>
    obtain ⟨mc, ms, a1, a2, a3, a4, a5, a6⟩ := h
    exact ⟨mc, ms, a1, a2, a3, a4, a5, hC _ _ _ _ _ _ _ (fun r h' hh => hN _ _ hh) a6⟩
  | .inr (.inr k) =>
    unfold aStep at h ⊢
    dsimp only at h ⊢
    split at h
    · exact ⟨h.1, hP _ _ h.2⟩
    · exact ⟨h.1, hP _ _ h.2⟩
    · exact h.elim
theorem aRun_mono {C : aCE} (hC : aMono C) {T : aTab} {P P' : Option aV → aH → Prop} (hP : ∀ r h, P r h → P' r h) {pc : Nat} {f : aF} (h : aRun T C P pc f) : aRun T C P' pc f := fun I hI => h I (fun pc f ⟨o, ho, hs⟩ => hI pc f ⟨o, ho, aStep_mono hC hP (fun _ _ x => x) hs⟩)
theorem aCall_mono {Mt : List aMd} : ∀ d : Nat, aMono (aCall Mt d)
  | 0 => fun _ _ _ _ _ _ _ _ h => h
  | d + 1 => fun mi vs h mc ms Q Q' hQ hh => by
    obtain ⟨M, h1, h2, h3⟩ := hh
    exact ⟨M, h1, h2, aRun_mono (aCall_mono d) hQ h3⟩
/-- a spec is taken with what is wanted of it -/
theorem ac_post {Mt : List aMd} {d mi : Nat} {vs : List aV} {h : aH} {mc ms : Nat} {Q Q' : Option aV → aH → Prop} (h1 : aCall Mt d mi vs h mc ms Q) (h2 : ∀ r h', Q r h' → Q' r h') : aCall Mt d mi vs h mc ms Q' := aCall_mono d mi vs h mc ms Q Q' h2 h1
variable {d : Nat} {T : aTab} {Q : Option aV → aH → Prop} {pc : Nat}
theorem ar_in {o : aOp} {f : aF} (ho : aAt T pc = some o) (h : aStep (aCall Mt d) Q (aRun T (aCall Mt d) Q) o pc f) : aRun T (aCall Mt d) Q pc f := fun I hI => hI pc f ⟨o, ho, aStep_mono (aCall_mono d) (fun _ _ x => x) (fun _ _ x => x I hI) h⟩
theorem ar_st {g : aF → Option (Nat × aF)} {f f' : aF} {pc' : Nat} (ho : aAt T pc = some (.inl g)) (hg : g f = some (pc', f')) (k : aRun T (aCall Mt d) Q pc' f') : aRun T (aCall Mt d) Q pc f := ar_in ho (by
  show (match g f with
    | some r => aRun T (aCall Mt d) Q r.1 r.2
    | none => False)
  rw [hg]
  exact k)
/-- a method is entered -/
theorem ac_in {mi : Nat} {M : aMd} {vs : List aV} {h : aH} {mc ms : Nat} (hM : Mt[mi]? = some M) (hl : (aEn vs).length ≤ M.2.2.1) (k : aRun M.2.2.2.2 (aCall Mt d) Q 0 (aEnt vs M.2.2.1, [], h, mc, ms)) : aCall Mt (d + 1) mi vs h mc ms Q := ⟨M, hM, hl, k⟩
theorem aCall_up : ∀ {d : Nat} {Q : Option aV → aH → Prop} {mi : Nat} {vs : List aV} {h : aH} {mc ms : Nat}, aCall Mt d mi vs h mc ms Q → aCall Mt (d + 1) mi vs h mc ms Q
  | 0, _, _, _, _, _, _, h => h.elim
  | d + 1, Q, mi, vs, h, mc, ms, hh => by
    obtain ⟨M, h1, h2, h3⟩ := hh
    refine ⟨M, h1, h2, h3 _ (fun pc f ho => ?_)⟩
    obtain ⟨o, ho, hs⟩ := ho
    intro I hI
    refine hI pc f ⟨o, ho, ?_⟩
    match o, hs with
    | .inl g, hs =>
      have hs : (match g f with
        | some r => _
        | none => False) := hs
      show (match g f with
        | some r => I r.1 r.2
        | none => False)
      cases hg : g f with
      | none => rw [hg] at hs; exact hs
      | some r => rw [hg] at hs; exact hs I hI
    | .inr (.inl q), hs =>
      obtain ⟨mc, ms, a1, a2, a3, a4, a5, a6⟩ := hs
      exact ⟨mc, ms, a1, a2, a3, a4, a5, aCall_mono (d + 1) _ _ _ _ _ _ _ (fun r h' hh => hh I hI) (aCall_up a6)⟩
    | .inr (.inr k), hs => exact hs
theorem aCall_le {d e mi : Nat} {vs : List aV} {h : aH} {mc ms : Nat} {Q : Option aV → aH → Prop} (hde : d ≤ e) (hh : aCall Mt d mi vs h mc ms Q) : aCall Mt e mi vs h mc ms Q := by
  obtain ⟨k, rfl⟩ := Nat.le.dest hde
  clear hde
  induction k with
  | zero => exact hh
  | succ k ih => exact aCall_up ih
variable {al : aL} {st r : List aV} {h : aH} {kc ks n i : Nat}
end PUR
