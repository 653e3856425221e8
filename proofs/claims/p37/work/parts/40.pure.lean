/-! THE ABSTRACT RUN, GOAL FIRST: rules for runs and calls -/
section PUR
def aMono (C : aCE) : Prop := ∀ (mi : Nat) (vs : List aV) (h : aH) (mc ms : Nat) (Q Q' : Option aV → aH → Prop), (∀ r h', Q r h' → Q' r h') → C mi vs h mc ms Q → C mi vs h mc ms Q'
theorem aStep_mono {C : aCE} (hC : aMono C) {P P' : Option aV → aH → Prop} {N N' : Nat → aF → Prop} (hP : ∀ r h, P r h → P' r h) (hN : ∀ pc f, N pc f → N' pc f) {o : aOp} {pc : Nat} {f : aF} (h : aStep C P N o pc f) : aStep C P' N' o pc f := by
  match o with
  | .inl g =>
    have h : (match g f with
      | some r => N r.1 r.2
      | none => False) := h
    show (match g f with
      | some r => N' r.1 r.2
      | none => False)
    cases hg : g f with
    | none => rw [hg] at h; exact h
    | some r => rw [hg] at h; exact hN _ _ h
  | .inr (.inl q) =>
    obtain ⟨mc, ms, a1, a2, a3, a4, a5, a6⟩ := h
    exact ⟨mc, ms, a1, a2, a3, a4, a5, hC _ _ _ _ _ _ _ (fun r h' hh => hN _ _ hh) a6⟩
  | .inr (.inr k) =>
    unfold aStep at h ⊢
    dsimp only at h ⊢
    split at h
    · exact ⟨h.1, hP _ _ h.2⟩
    · exact ⟨h.1, hP _ _ h.2⟩
    · exact h.elim
theorem aRun_mono {C : aCE} (hC : aMono C) {T : aTab} {P P' : Option aV → aH → Prop} (hP : ∀ r h, P r h → P' r h) {pc : Nat} {f : aF} (h : aRun T C P pc f) : aRun T C P' pc f := fun I hI => h I (fun pc f ⟨o, ho, hs⟩ => hI pc f ⟨o, ho, aStep_mono hC hP (fun _ _ x => x) hs⟩)
theorem aCall_mono {Mt : List aMd} : ∀ d : Nat, aMono (aCall Mt d)
  | 0 => fun _ _ _ _ _ _ _ _ h => h
  | d + 1 => fun mi vs h mc ms Q Q' hQ hh => by
    obtain ⟨M, h1, h2, h3⟩ := hh
    exact ⟨M, h1, h2, aRun_mono (aCall_mono d) hQ h3⟩
/-- a spec is taken with what is wanted of it -/
theorem ac_post {Mt : List aMd} {d mi : Nat} {vs : List aV} {h : aH} {mc ms : Nat} {Q Q' : Option aV → aH → Prop} (h1 : aCall Mt d mi vs h mc ms Q) (h2 : ∀ r h', Q r h' → Q' r h') : aCall Mt d mi vs h mc ms Q' := aCall_mono d mi vs h mc ms Q Q' h2 h1
variable {d : Nat} {T : aTab} {Q : Option aV → aH → Prop} {pc : Nat}
theorem ar_in {o : aOp} {f : aF} (ho : aAt T pc = some o) (h : aStep (aCall Mt d) Q (aRun T (aCall Mt d) Q) o pc f) : aRun T (aCall Mt d) Q pc f := fun I hI => hI pc f ⟨o, ho, aStep_mono (aCall_mono d) (fun _ _ x => x) (fun _ _ x => x I hI) h⟩
theorem ar_st {g : aF → Option (Nat × aF)} {f f' : aF} {pc' : Nat} (ho : aAt T pc = some (.inl g)) (hg : g f = some (pc', f')) (k : aRun T (aCall Mt d) Q pc' f') : aRun T (aCall Mt d) Q pc f := ar_in ho (by
  show (match g f with
    | some r => aRun T (aCall Mt d) Q r.1 r.2
    | none => False)
  rw [hg]
  exact k)
/-- a method is entered -/
theorem ac_in {mi : Nat} {M : aMd} {vs : List aV} {h : aH} {mc ms : Nat} (hM : Mt[mi]? = some M) (hl : (aEn vs).length ≤ M.2.2.1) (k : aRun M.2.2.2.2 (aCall Mt d) Q 0 (aEnt vs M.2.2.1, [], h, mc, ms)) : aCall Mt (d + 1) mi vs h mc ms Q := ⟨M, hM, hl, k⟩
theorem aCall_up : ∀ {d : Nat} {Q : Option aV → aH → Prop} {mi : Nat} {vs : List aV} {h : aH} {mc ms : Nat}, aCall Mt d mi vs h mc ms Q → aCall Mt (d + 1) mi vs h mc ms Q
  | 0, _, _, _, _, _, _, h => h.elim
  | d + 1, Q, mi, vs, h, mc, ms, hh => by
    obtain ⟨M, h1, h2, h3⟩ := hh
    refine ⟨M, h1, h2, h3 _ (fun pc f ho => ?_)⟩
    obtain ⟨o, ho, hs⟩ := ho
    intro I hI
    refine hI pc f ⟨o, ho, ?_⟩
    match o, hs with
    | .inl g, hs =>
      have hs : (match g f with
        | some r => _
        | none => False) := hs
      show (match g f with
        | some r => I r.1 r.2
        | none => False)
      cases hg : g f with
      | none => rw [hg] at hs; exact hs
      | some r => rw [hg] at hs; exact hs I hI
    | .inr (.inl q), hs =>
      obtain ⟨mc, ms, a1, a2, a3, a4, a5, a6⟩ := hs
      exact ⟨mc, ms, a1, a2, a3, a4, a5, aCall_mono (d + 1) _ _ _ _ _ _ _ (fun r h' hh => hh I hI) (aCall_up a6)⟩
    | .inr (.inr k), hs => exact hs
theorem aCall_le {d e mi : Nat} {vs : List aV} {h : aH} {mc ms : Nat} {Q : Option aV → aH → Prop} (hde : d ≤ e) (hh : aCall Mt d mi vs h mc ms Q) : aCall Mt e mi vs h mc ms Q := by
  obtain ⟨k, rfl⟩ := Nat.le.dest hde
  clear hde
  induction k with
  | zero => exact hh
  | succ k ih => exact aCall_up ih
variable {al : aL} {st r : List aV} {h : aH} {kc ks n i : Nat}
theorem ar_push {v : aV} (ho : aAt T pc = some (.inl (oPush n v)))  (k : aRun T (aCall Mt d) Q n (al, v :: st, h, kc, ks)) : aRun T (aCall Mt d) Q pc (al, st, h, kc, ks) := ar_st ho (rfl) k
theorem ar_ldI {x : Int32} (ho : aAt T pc = some (.inl (oLoadI n i))) (hi : al[i]? = some (some (.inl x))) (k : aRun T (aCall Mt d) Q n (al, .inl x :: st, h, kc, ks)) : aRun T (aCall Mt d) Q pc (al, st, h, kc, ks) := ar_st ho (by unfold oLoadI; dsimp only; rw [hi]) k
theorem ar_svI {x : Int32} (ho : aAt T pc = some (.inl (oStI n i)))  (k : aRun T (aCall Mt d) Q n (aSt1 al i (.inl x), st, h, kc, ks)) : aRun T (aCall Mt d) Q pc (al, .inl x :: st, h, kc, ks) := ar_st ho (rfl) k
theorem ar_ldJ {x : Int64} (ho : aAt T pc = some (.inl (oLoadJ n i))) (hi : al[i]? = some (some (.inr (.inl x)))) (k : aRun T (aCall Mt d) Q n (al, .inr (.inl x) :: st, h, kc, ks)) : aRun T (aCall Mt d) Q pc (al, st, h, kc, ks) := ar_st ho (by unfold oLoadJ; dsimp only; rw [hi]) k
theorem ar_svJ {x : Int64} (ho : aAt T pc = some (.inl (oStJ n i)))  (k : aRun T (aCall Mt d) Q n (aSt2 al i (.inr (.inl x)), st, h, kc, ks)) : aRun T (aCall Mt d) Q pc (al, .inr (.inl x) :: st, h, kc, ks) := ar_st ho (rfl) k
theorem ar_ldA {x : Option Nat} (ho : aAt T pc = some (.inl (oLoadA n i))) (hi : al[i]? = some (some (.inr (.inr x)))) (k : aRun T (aCall Mt d) Q n (al, .inr (.inr x) :: st, h, kc, ks)) : aRun T (aCall Mt d) Q pc (al, st, h, kc, ks) := ar_st ho (by unfold oLoadA; dsimp only; rw [hi]) k
theorem ar_svA {x : Option Nat} (ho : aAt T pc = some (.inl (oStA n i)))  (k : aRun T (aCall Mt d) Q n (aSt1 al i (.inr (.inr x)), st, h, kc, ks)) : aRun T (aCall Mt d) Q pc (al, .inr (.inr x) :: st, h, kc, ks) := ar_st ho (rfl) k
theorem ar_inc {x dd : Int32} (ho : aAt T pc = some (.inl (oInc n i dd))) (hi : al[i]? = some (some (.inl x))) (k : aRun T (aCall Mt d) Q n (aSt1 al i (.inl (x + dd)), st, h, kc, ks)) : aRun T (aCall Mt d) Q pc (al, st, h, kc, ks) := ar_st ho (by unfold oInc; dsimp only; rw [hi]) k
theorem ar_bin {x y : Int32} {q : Int32 → Int32 → Int32} (ho : aAt T pc = some (.inl (oBin n q)))  (k : aRun T (aCall Mt d) Q n (al, .inl (q x y) :: st, h, kc, ks)) : aRun T (aCall Mt d) Q pc (al, .inl y :: .inl x :: st, h, kc, ks) := ar_st ho (rfl) k
theorem ar_un {x : Int32} {q : Int32 → Int32} (ho : aAt T pc = some (.inl (oUn n q)))  (k : aRun T (aCall Mt d) Q n (al, .inl (q x) :: st, h, kc, ks)) : aRun T (aCall Mt d) Q pc (al, .inl x :: st, h, kc, ks) := ar_st ho (rfl) k
theorem ar_div {x y : Int32} {q : Int32 → Int32 → Int32} (ho : aAt T pc = some (.inl (oDiv n q))) (hy : ¬ y = 0) (k : aRun T (aCall Mt d) Q n (al, .inl (q x y) :: st, h, kc, ks)) : aRun T (aCall Mt d) Q pc (al, .inl y :: .inl x :: st, h, kc, ks) := ar_st ho (by unfold oDiv; dsimp only; rw [if_neg hy]) k
theorem ar_binJ {x y : Int64} {q : Int64 → Int64 → Int64} (ho : aAt T pc = some (.inl (oBinJ n q)))  (k : aRun T (aCall Mt d) Q n (al, .inr (.inl (q x y)) :: st, h, kc, ks)) : aRun T (aCall Mt d) Q pc (al, .inr (.inl y) :: .inr (.inl x) :: st, h, kc, ks) := ar_st ho (rfl) k
theorem ar_cmpJ {x y : Int64} {q : Int64 → Int64 → Int32} (ho : aAt T pc = some (.inl (oCmpJ n q)))  (k : aRun T (aCall Mt d) Q n (al, .inl (q x y) :: st, h, kc, ks)) : aRun T (aCall Mt d) Q pc (al, .inr (.inl y) :: .inr (.inl x) :: st, h, kc, ks) := ar_st ho (rfl) k
theorem ar_shJ {x : Int64} {y : Int32} {q : Int64 → Int32 → Int64} (ho : aAt T pc = some (.inl (oShJ n q)))  (k : aRun T (aCall Mt d) Q n (al, .inr (.inl (q x y)) :: st, h, kc, ks)) : aRun T (aCall Mt d) Q pc (al, .inl y :: .inr (.inl x) :: st, h, kc, ks) := ar_st ho (rfl) k
theorem ar_i2l {x : Int32} (ho : aAt T pc = some (.inl (oI2L n)))  (k : aRun T (aCall Mt d) Q n (al, .inr (.inl x.toInt64) :: st, h, kc, ks)) : aRun T (aCall Mt d) Q pc (al, .inl x :: st, h, kc, ks) := ar_st ho (rfl) k
theorem ar_l2i {x : Int64} (ho : aAt T pc = some (.inl (oL2I n)))  (k : aRun T (aCall Mt d) Q n (al, .inl x.toInt32 :: st, h, kc, ks)) : aRun T (aCall Mt d) Q pc (al, .inr (.inl x) :: st, h, kc, ks) := ar_st ho (rfl) k
theorem ar_go  (ho : aAt T pc = some (.inl (oGo n)))  (k : aRun T (aCall Mt d) Q n (al, st, h, kc, ks)) : aRun T (aCall Mt d) Q pc (al, st, h, kc, ks) := ar_st ho (rfl) k
theorem ar_dup {v : aV} (ho : aAt T pc = some (.inl (oDup n))) (hv : a1 v = true) (k : aRun T (aCall Mt d) Q n (al, v :: v :: st, h, kc, ks)) : aRun T (aCall Mt d) Q pc (al, v :: st, h, kc, ks) := ar_st ho (by unfold oDup; dsimp only; rw [hv]; rfl) k
theorem ar_pop {v : aV} (ho : aAt T pc = some (.inl (oPop n))) (hv : a1 v = true) (k : aRun T (aCall Mt d) Q n (al, st, h, kc, ks)) : aRun T (aCall Mt d) Q pc (al, v :: st, h, kc, ks) := ar_st ho (by unfold oPop; dsimp only; rw [hv]; rfl) k
theorem ar_dup2 {v w : aV} (ho : aAt T pc = some (.inl (oDup2 n))) (hv : a1 v = true) (hw : a1 w = true) (k : aRun T (aCall Mt d) Q n (al, v :: w :: v :: w :: st, h, kc, ks)) : aRun T (aCall Mt d) Q pc (al, v :: w :: st, h, kc, ks) := ar_st ho (by unfold oDup2; dsimp only; rw [hv, hw]; rfl) k
theorem ar_nulN {t : Nat} (ho : aAt T pc = some (.inl (oNul n t)))  (k : aRun T (aCall Mt d) Q n (al, st, h, kc, ks)) : aRun T (aCall Mt d) Q pc (al, .inr (.inr none) :: st, h, kc, ks) := ar_st ho (rfl) k
theorem ar_nulS {t a : Nat} (ho : aAt T pc = some (.inl (oNul t n)))  (k : aRun T (aCall Mt d) Q n (al, st, h, kc, ks)) : aRun T (aCall Mt d) Q pc (al, .inr (.inr (some a)) :: st, h, kc, ks) := ar_st ho (rfl) k
theorem ar_if1t {x : Int32} {q : Int32 → Bool} {t : Nat} (ho : aAt T pc = some (.inl (oIf1 n t q))) (hq : q x = true) (k : aRun T (aCall Mt d) Q n (al, st, h, kc, ks)) : aRun T (aCall Mt d) Q pc (al, .inl x :: st, h, kc, ks) := ar_st ho (by unfold oIf1; dsimp only; rw [hq]; rfl) k
theorem ar_if1f {x : Int32} {q : Int32 → Bool} {t : Nat} (ho : aAt T pc = some (.inl (oIf1 t n q))) (hq : q x = false) (k : aRun T (aCall Mt d) Q n (al, st, h, kc, ks)) : aRun T (aCall Mt d) Q pc (al, .inl x :: st, h, kc, ks) := ar_st ho (by unfold oIf1; dsimp only; rw [hq]; rfl) k
theorem ar_if1 {x : Int32} {q : Int32 → Bool} {t : Nat} (ho : aAt T pc = some (.inl (oIf1 t n q))) (kt : q x = true → aRun T (aCall Mt d) Q t (al, st, h, kc, ks)) (kf : q x = false → aRun T (aCall Mt d) Q n (al, st, h, kc, ks)) : aRun T (aCall Mt d) Q pc (al, .inl x :: st, h, kc, ks) := by
  cases hq : q x with
  | true => exact ar_if1t ho hq (kt hq)
  | false => exact ar_if1f ho hq (kf hq)
theorem ar_if2t {x y : Int32} {q : Int32 → Int32 → Bool} {t : Nat} (ho : aAt T pc = some (.inl (oIf2 n t q))) (hq : q x y = true) (k : aRun T (aCall Mt d) Q n (al, st, h, kc, ks)) : aRun T (aCall Mt d) Q pc (al, .inl y :: .inl x :: st, h, kc, ks) := ar_st ho (by unfold oIf2; dsimp only; rw [hq]; rfl) k
theorem ar_if2f {x y : Int32} {q : Int32 → Int32 → Bool} {t : Nat} (ho : aAt T pc = some (.inl (oIf2 t n q))) (hq : q x y = false) (k : aRun T (aCall Mt d) Q n (al, st, h, kc, ks)) : aRun T (aCall Mt d) Q pc (al, .inl y :: .inl x :: st, h, kc, ks) := ar_st ho (by unfold oIf2; dsimp only; rw [hq]; rfl) k
theorem ar_if2 {x y : Int32} {q : Int32 → Int32 → Bool} {t : Nat} (ho : aAt T pc = some (.inl (oIf2 t n q))) (kt : q x y = true → aRun T (aCall Mt d) Q t (al, st, h, kc, ks)) (kf : q x y = false → aRun T (aCall Mt d) Q n (al, st, h, kc, ks)) : aRun T (aCall Mt d) Q pc (al, .inl y :: .inl x :: st, h, kc, ks) := by
  cases hq : q x y with
  | true => exact ar_if2t ho hq (kt hq)
  | false => exact ar_if2f ho hq (kf hq)
theorem ar_get {a ci k0 : Nat} {fs : List aV} {v : aV} (ho : aAt T pc = some (.inl (oGet n ci k0))) (ha : h[a]? = some (.inl (ci, fs))) (hv : fs[k0]? = some v) (k : aRun T (aCall Mt d) Q n (al, v :: st, h, kc, ks)) : aRun T (aCall Mt d) Q pc (al, .inr (.inr (some a)) :: st, h, kc, ks) := ar_st ho (by unfold oGet; dsimp only; rw [ha]; dsimp only; rw [if_pos rfl, hv]) k
theorem ar_put {a ci k0 : Nat} {fs : List aV} {v : aV} {ty : FieldType} (ho : aAt T pc = some (.inl (oPut n ci k0 ty))) (ha : h[a]? = some (.inl (ci, fs))) (hl : k0 < fs.length) (hf : aFit ty v = true) (k : aRun T (aCall Mt d) Q n (al, st, h.set a (.inl (ci, fs.set k0 v)), kc, ks)) : aRun T (aCall Mt d) Q pc (al, v :: .inr (.inr (some a)) :: st, h, kc, ks) := ar_st ho (by unfold oPut; dsimp only; rw [ha]; dsimp only; rw [if_pos ⟨rfl, hl⟩, hf]; rfl) k
theorem ar_ald {a kd : Nat} {xs : List Int32} {j x : Int32} (ho : aAt T pc = some (.inl (oAld n kd))) (ha : h[a]? = some (.inr (kd, .inl xs))) (h0 : ¬ j < 0) (hx : xs[j.toNatClampNeg]? = some x) (k : aRun T (aCall Mt d) Q n (al, .inl x :: st, h, kc, ks)) : aRun T (aCall Mt d) Q pc (al, .inl j :: .inr (.inr (some a)) :: st, h, kc, ks) := ar_st ho (by unfold oAld; dsimp only; rw [ha]; dsimp only; rw [if_pos ⟨rfl, h0⟩, hx]) k
theorem ar_aldJ {a : Nat} {xs : List Int64} {j : Int32} {x : Int64} (ho : aAt T pc = some (.inl (oAldJ n))) (ha : h[a]? = some (.inr (4, .inr (.inl xs)))) (h0 : ¬ j < 0) (hx : xs[j.toNatClampNeg]? = some x) (k : aRun T (aCall Mt d) Q n (al, .inr (.inl x) :: st, h, kc, ks)) : aRun T (aCall Mt d) Q pc (al, .inl j :: .inr (.inr (some a)) :: st, h, kc, ks) := ar_st ho (by unfold oAldJ; dsimp only; rw [ha]; dsimp only; rw [if_pos ⟨rfl, h0⟩, hx]) k
theorem ar_aldA {a kd : Nat} {xs : List (Option Nat)} {j : Int32} {x : Option Nat} (ho : aAt T pc = some (.inl (oAldA n kd))) (ha : h[a]? = some (.inr (kd, .inr (.inr xs)))) (h0 : ¬ j < 0) (hx : xs[j.toNatClampNeg]? = some x) (k : aRun T (aCall Mt d) Q n (al, .inr (.inr x) :: st, h, kc, ks)) : aRun T (aCall Mt d) Q pc (al, .inl j :: .inr (.inr (some a)) :: st, h, kc, ks) := ar_st ho (by unfold oAldA; dsimp only; rw [ha]; dsimp only; rw [if_pos ⟨rfl, h0⟩, hx]) k
theorem ar_ast {a kd : Nat} {xs : List Int32} {j x : Int32} {nar : Int32 → Int32} (ho : aAt T pc = some (.inl (oAst n kd nar))) (ha : h[a]? = some (.inr (kd, .inl xs))) (h0 : ¬ j < 0) (hx : j.toNatClampNeg < xs.length) (k : aRun T (aCall Mt d) Q n (al, st, h.set a (.inr (kd, .inl (xs.set j.toNatClampNeg (nar x)))), kc, ks)) : aRun T (aCall Mt d) Q pc (al, .inl x :: .inl j :: .inr (.inr (some a)) :: st, h, kc, ks) := ar_st ho (by unfold oAst; dsimp only; rw [ha]; dsimp only; rw [if_pos ⟨rfl, h0, hx⟩]) k
theorem ar_astJ {a : Nat} {xs : List Int64} {j : Int32} {x : Int64} (ho : aAt T pc = some (.inl (oAstJ n))) (ha : h[a]? = some (.inr (4, .inr (.inl xs)))) (h0 : ¬ j < 0) (hx : j.toNatClampNeg < xs.length) (k : aRun T (aCall Mt d) Q n (al, st, h.set a (.inr (4, .inr (.inl (xs.set j.toNatClampNeg x)))), kc, ks)) : aRun T (aCall Mt d) Q pc (al, .inr (.inl x) :: .inl j :: .inr (.inr (some a)) :: st, h, kc, ks) := ar_st ho (by unfold oAstJ; dsimp only; rw [ha]; dsimp only; rw [if_pos ⟨rfl, h0, hx⟩]) k
theorem ar_astA {a v kd ci : Nat} {xs : List (Option Nat)} {fs : List aV} {j : Int32} (ho : aAt T pc = some (.inl (oAstA n kd ci))) (ha : h[a]? = some (.inr (kd, .inr (.inr xs)))) (hv : h[v]? = some (.inl (ci, fs))) (h0 : ¬ j < 0) (hx : j.toNatClampNeg < xs.length) (k : aRun T (aCall Mt d) Q n (al, st, h.set a (.inr (kd, .inr (.inr (xs.set j.toNatClampNeg (some v))))), kc, ks)) : aRun T (aCall Mt d) Q pc (al, .inr (.inr (some v)) :: .inl j :: .inr (.inr (some a)) :: st, h, kc, ks) := ar_st ho (by unfold oAstA; dsimp only; rw [ha, hv]; dsimp only; rw [if_pos ⟨⟨rfl, rfl⟩, h0, hx⟩]) k
theorem ar_len {a kd : Nat} {x : aArr} (ho : aAt T pc = some (.inl (oLen n))) (ha : h[a]? = some (.inr (kd, x))) (k : aRun T (aCall Mt d) Q n (al, .inl (Int32.ofNat (aLen x)) :: st, h, kc, ks)) : aRun T (aCall Mt d) Q pc (al, .inr (.inr (some a)) :: st, h, kc, ks) := ar_st ho (by unfold oLen; dsimp only; rw [ha]) k
theorem ar_new {ci : Nat} {dfs : List aV} (ho : aAt T pc = some (.inl (oNew n ci dfs))) (h1 : 1 ≤ kc) (h2 : dfs.length ≤ ks) (k : aRun T (aCall Mt d) Q n (al, .inr (.inr (some h.length)) :: st, h ++ [.inl (ci, dfs)], kc - 1, ks - dfs.length)) : aRun T (aCall Mt d) Q pc (al, st, h, kc, ks) := ar_st ho (by unfold oNew; dsimp only; rw [if_pos ⟨h1, h2⟩]) k
theorem ar_newI {j : Int32} {kd : Nat} (ho : aAt T pc = some (.inl (oNewI n kd))) (h0 : ¬ j < 0) (h3 : j.toNatClampNeg ≤ 60000) (h1 : 1 ≤ kc) (h2 : j.toNatClampNeg ≤ ks) (k : aRun T (aCall Mt d) Q n (al, .inr (.inr (some h.length)) :: st, h ++ [.inr (kd, .inl (List.replicate j.toNatClampNeg 0))], kc - 1, ks - j.toNatClampNeg)) : aRun T (aCall Mt d) Q pc (al, .inl j :: st, h, kc, ks) := ar_st ho (by unfold oNewI; dsimp only; rw [if_pos ⟨h0, h3, h1, h2⟩]) k
theorem ar_newJ {j : Int32} (ho : aAt T pc = some (.inl (oNewJ n))) (h0 : ¬ j < 0) (h3 : j.toNatClampNeg ≤ 60000) (h1 : 1 ≤ kc) (h2 : j.toNatClampNeg ≤ ks) (k : aRun T (aCall Mt d) Q n (al, .inr (.inr (some h.length)) :: st, h ++ [.inr (4, .inr (.inl (List.replicate j.toNatClampNeg 0)))], kc - 1, ks - j.toNatClampNeg)) : aRun T (aCall Mt d) Q pc (al, .inl j :: st, h, kc, ks) := ar_st ho (by unfold oNewJ; dsimp only; rw [if_pos ⟨h0, h3, h1, h2⟩]) k
theorem ar_newA {j : Int32} {kd : Nat} (ho : aAt T pc = some (.inl (oNewA n kd))) (h0 : ¬ j < 0) (h3 : j.toNatClampNeg ≤ 60000) (h1 : 1 ≤ kc) (h2 : j.toNatClampNeg ≤ ks) (k : aRun T (aCall Mt d) Q n (al, .inr (.inr (some h.length)) :: st, h ++ [.inr (kd, .inr (.inr (List.replicate j.toNatClampNeg none)))], kc - 1, ks - j.toNatClampNeg)) : aRun T (aCall Mt d) Q pc (al, .inl j :: st, h, kc, ks) := ar_st ho (by unfold oNewA; dsimp only; rw [if_pos ⟨h0, h3, h1, h2⟩]) k
theorem ar_obj {a : Nat} (ho : aAt T pc = some (.inl (oObj n))) (hl : st.length ≤ 8) (k : aRun T (aCall Mt d) Q n (al, st, h, kc, ks)) : aRun T (aCall Mt d) Q pc (al, .inr (.inr (some a)) :: st, h, kc, ks) := ar_st ho (by unfold oObj; dsimp only; rw [if_pos hl]) k
theorem ar_abs {x : Int32} (ho : aAt T pc = some (.inl (oMabs n))) (hl : ¬ (9 ≤ (.inl x :: st : List aV).length)) (k : aRun T (aCall Mt d) Q n (al, .inl (if 0 ≤ x then x else 0 - x) :: st, h, kc, ks)) : aRun T (aCall Mt d) Q pc (al, .inl x :: st, h, kc, ks) := ar_st ho (by unfold oMabs; dsimp only; rw [if_neg hl]; rfl) k
theorem ar_max {x y : Int32} (ho : aAt T pc = some (.inl (oMmax n))) (hl : ¬ (9 ≤ (.inl y :: .inl x :: st : List aV).length)) (k : aRun T (aCall Mt d) Q n (al, .inl (if x < y then y else x) :: st, h, kc, ks)) : aRun T (aCall Mt d) Q pc (al, .inl y :: .inl x :: st, h, kc, ks) := ar_st ho (by unfold oMmax; dsimp only; rw [if_neg hl]; rfl) k
theorem ar_min {x y : Int32} (ho : aAt T pc = some (.inl (oMmin n))) (hl : ¬ (9 ≤ (.inl y :: .inl x :: st : List aV).length)) (k : aRun T (aCall Mt d) Q n (al, .inl (if y < x then y else x) :: st, h, kc, ks)) : aRun T (aCall Mt d) Q pc (al, .inl y :: .inl x :: st, h, kc, ks) := ar_st ho (by unfold oMmin; dsimp only; rw [if_neg hl]; rfl) k
theorem ar_tabO {x : Int32} {dd : Nat} {lo : Int} {ts : List Nat} (ho : aAt T pc = some (.inl (oTab dd lo ts))) (hq : x.toInt < lo ∨ lo + ts.length ≤ x.toInt) (k : aRun T (aCall Mt d) Q dd (al, st, h, kc, ks)) : aRun T (aCall Mt d) Q pc (al, .inl x :: st, h, kc, ks) := ar_st ho (by
  unfold oTab
  dsimp only
  by_cases q : x.toInt < lo
  · rw [if_pos q]
  · rw [if_neg q, List.getElem?_eq_none (by omega)]) k
theorem ar_tabI {x : Int32} {dd t : Nat} {lo : Int} {ts : List Nat} (ho : aAt T pc = some (.inl (oTab dd lo ts))) (hq : ¬ x.toInt < lo) (ht : ts[(x.toInt - lo).toNat]? = some t) (k : aRun T (aCall Mt d) Q t (al, st, h, kc, ks)) : aRun T (aCall Mt d) Q pc (al, .inl x :: st, h, kc, ks) := ar_st ho (by
  unfold oTab
  dsimp only
  rw [if_neg hq, ht]) k
theorem ar_ret0 (ho : aAt T pc = some (.inr (.inr 0))) (k : Q none h) : aRun T (aCall Mt d) Q pc (al, [], h, kc, ks) := ar_in ho ⟨rfl, k⟩
theorem ar_ret {q : Nat} {v : aV} (ho : aAt T pc = some (.inr (.inr q))) (hv : aRet q v = true) (k : Q (some v) h) : aRun T (aCall Mt d) Q pc (al, [v], h, kc, ks) := ar_in ho ⟨hv, k⟩
/-- a call, by what is known of it -/
theorem ar_call {mi q ck : Nat} {vs : List aV} {mc ms : Nat} {Q1 : Option aV → aH → Prop} (ho : aAt T pc = some (.inr (.inl (mi, q, ck)))) (hvs : (st.take q).reverse = vs) (hq : q ≤ st.length) (hr : (st.drop q).length ≤ 4) (hck : aRcv ck h vs = true) (hmc : mc ≤ kc) (hms : ms ≤ ks) (hc : aCall Mt d mi vs h mc ms Q1)
    (k : ∀ v h', Q1 v h' → aRun T (aCall Mt d) Q (pc + 3) (al, v.toList ++ st.drop q, h', kc - mc, ks - ms)) : aRun T (aCall Mt d) Q pc (al, st, h, kc, ks) := ar_in ho ⟨mc, ms, by show aRcv ck h (st.take q).reverse = true; rw [hvs]; exact hck, hq, hr, hmc, hms, by
  show aCall Mt d mi (st.take q).reverse h mc ms _
  rw [hvs]
  exact ac_post hc k⟩
/-- a call that answers v and leaves the heap, nothing made -/
theorem ar_callv {mi q ck : Nat} {vs : List aV} {v : aV} (ho : aAt T pc = some (.inr (.inl (mi, q, ck)))) (hvs : (st.take q).reverse = vs) (hq : q ≤ st.length) (hr : (st.drop q).length ≤ 4) (hck : aRcv ck h vs = true) (hc : aCall Mt d mi vs h 0 0 (fun r h' => r = some v ∧ h' = h))
    (k : aRun T (aCall Mt d) Q (pc + 3) (al, v :: st.drop q, h, kc, ks)) : aRun T (aCall Mt d) Q pc (al, st, h, kc, ks) := ar_call ho hvs hq hr hck (Nat.zero_le _) (Nat.zero_le _) hc (fun r h' e => by
  obtain ⟨rfl, rfl⟩ := e
  exact k)
end PUR
