/-! RULES of the run where room is no matter, goal first -/
section UPU
variable {d : Nat} {T : aTab} {Q : Option aV → aH → Prop} {pc : Nat}
theorem uc_post {Mt : List aMd} {d mi : Nat} {vs : List aV} {h : aH} {mc ms : Nat} {Q Q' : Option aV → aH → Prop} (h1 : uCall Mt d mi vs h mc ms Q) (h2 : ∀ r h', Q r h' → Q' r h') : uCall Mt d mi vs h mc ms Q' := uCall_mono d mi vs h mc ms Q Q' h2 h1
theorem ur_in {o : aOp} {f : aF} (ho : aAt T pc = some o) (h : uStep (uCall Mt d) Q (uRun T (uCall Mt d) Q) o pc f) : uRun T (uCall Mt d) Q pc f := fun I hI => hI pc f ⟨o, ho, uStep_mono (uCall_mono d) (fun _ _ x => x) (fun _ _ x => x I hI) h⟩
theorem ur_st {g : aF → Option (Nat × aF)} {al al' : aL} {st st' : List aV} {h h' : aH} {kc ks pc' x y : Nat} (ho : aAt T pc = some (.inl g)) (hg : g (al, st, h, uM, uM) = some (pc', al', st', h', x, y)) (k : uRun T (uCall Mt d) Q pc' (al', st', h', kc, ks)) : uRun T (uCall Mt d) Q pc (al, st, h, kc, ks) := ur_in ho (by
  show (match g (al, st, h, uM, uM) with
    | some r => uRun T (uCall Mt d) Q r.1 (r.2.1, r.2.2.1, r.2.2.2.1, kc, ks)
    | none => False)
  rw [hg]
  exact k)
theorem uc_in {mi : Nat} {M : aMd} {vs : List aV} {h : aH} {mc ms : Nat} (hM : Mt[mi]? = some M) (hl : (aEn vs).length ≤ M.2.2.1) (k : uRun M.2.2.2.2 (uCall Mt d) Q 0 (aEnt vs M.2.2.1, [], h, mc, ms)) : uCall Mt (d + 1) mi vs h mc ms Q := ⟨M, hM, hl, k⟩
theorem uCall_up : ∀ {d : Nat} {Q : Option aV → aH → Prop} {mi : Nat} {vs : List aV} {h : aH} {mc ms : Nat}, uCall Mt d mi vs h mc ms Q → uCall Mt (d + 1) mi vs h mc ms Q
  | 0, _, _, _, _, _, _, h => h.elim
  | d + 1, Q, mi, vs, h, mc, ms, hh => by
    obtain ⟨M, h1, h2, h3⟩ := hh
    refine ⟨M, h1, h2, h3 _ (fun pc f ho => ?_)⟩
    obtain ⟨o, ho, hs⟩ := ho
    intro I hI
    refine hI pc f ⟨o, ho, ?_⟩
    match o, hs with
    | .inl g, hs =>
      have hs : (match g (f.1, f.2.1, f.2.2.1, uM, uM) with
        | some r => _
        | none => False) := hs
      show (match g (f.1, f.2.1, f.2.2.1, uM, uM) with
        | some r => I r.1 (r.2.1, r.2.2.1, r.2.2.2.1, f.2.2.2)
        | none => False)
      cases hg : g (f.1, f.2.1, f.2.2.1, uM, uM) with
      | none => rw [hg] at hs; exact hs
      | some r => rw [hg] at hs; exact hs I hI
    | .inr (.inl q), hs =>
      obtain ⟨a1, a2, a3, a6⟩ := hs
      exact ⟨a1, a2, a3, uCall_mono (d + 1) _ _ _ _ _ _ _ (fun r h' hh => hh I hI) (uCall_up a6)⟩
    | .inr (.inr k), hs => exact hs
theorem uCall_le {d e mi : Nat} {vs : List aV} {h : aH} {mc ms : Nat} {Q : Option aV → aH → Prop} (hde : d ≤ e) (hh : uCall Mt d mi vs h mc ms Q) : uCall Mt e mi vs h mc ms Q := by
  obtain ⟨k, rfl⟩ := Nat.le.dest hde
  clear hde
  induction k with
  | zero => exact hh
  | succ k ih => exact uCall_up ih
/-- rooms are no matter -/
theorem uRun_kc {T : aTab} {pc : Nat} {al : aL} {st : List aV} {h : aH} {kc ks kc' ks' : Nat} (hh : uRun T (uCall Mt d) Q pc (al, st, h, kc, ks)) : uRun T (uCall Mt d) Q pc (al, st, h, kc', ks') := by
  intro I hI
  refine hh (fun pc f => ∀ k, I pc (f.1, f.2.1, f.2.2.1, k)) (fun pc f ⟨o, ho, hs⟩ k => hI pc _ ⟨o, ho, ?_⟩) (kc', ks')
  match o, hs with
  | .inl g, hs =>
    have hs : (match g (f.1, f.2.1, f.2.2.1, uM, uM) with
      | some r => ∀ k, I r.1 (r.2.1, r.2.2.1, r.2.2.2.1, k)
      | none => False) := hs
    show (match g (f.1, f.2.1, f.2.2.1, uM, uM) with
      | some r => I r.1 (r.2.1, r.2.2.1, r.2.2.2.1, k)
      | none => False)
    cases hg : g (f.1, f.2.1, f.2.2.1, uM, uM) with
    | none => rw [hg] at hs; exact hs
    | some r => rw [hg] at hs; exact hs k
  | .inr (.inl q), hs =>
    obtain ⟨a1, a2, a3, a6⟩ := hs
    exact ⟨a1, a2, a3, uCall_mono d _ _ _ _ _ _ _ (fun r h' hh => hh k) a6⟩
  | .inr (.inr q), hs => exact hs
theorem uCall_kc {d mi : Nat} {vs : List aV} {h : aH} {mc ms mc' ms' : Nat} (hh : uCall Mt d mi vs h mc ms Q) : uCall Mt d mi vs h mc' ms' Q := by
  match d, hh with
  | 0, hh => exact hh.elim
  | d + 1, hh =>
    obtain ⟨M, h1, h2, h3⟩ := hh
    exact ⟨M, h1, h2, uRun_kc h3⟩
variable {al : aL} {st r : List aV} {h : aH} {kc ks n i : Nat}
theorem ur_push {v : aV} (ho : aAt T pc = some (.inl (oPush n v)))  (k : uRun T (uCall Mt d) Q n (al, v :: st, h, kc, ks)) : uRun T (uCall Mt d) Q pc (al, st, h, kc, ks) := ur_st ho (rfl) k
theorem ur_ldI {x : Int32} (ho : aAt T pc = some (.inl (oLoadI n i))) (hi : al[i]? = some (some (.inl x))) (k : uRun T (uCall Mt d) Q n (al, .inl x :: st, h, kc, ks)) : uRun T (uCall Mt d) Q pc (al, st, h, kc, ks) := ur_st ho (by unfold oLoadI; dsimp only; rw [hi]) k
theorem ur_svI {x : Int32} (ho : aAt T pc = some (.inl (oStI n i)))  (k : uRun T (uCall Mt d) Q n (aSt1 al i (.inl x), st, h, kc, ks)) : uRun T (uCall Mt d) Q pc (al, .inl x :: st, h, kc, ks) := ur_st ho (rfl) k
theorem ur_ldJ {x : Int64} (ho : aAt T pc = some (.inl (oLoadJ n i))) (hi : al[i]? = some (some (.inr (.inl x)))) (k : uRun T (uCall Mt d) Q n (al, .inr (.inl x) :: st, h, kc, ks)) : uRun T (uCall Mt d) Q pc (al, st, h, kc, ks) := ur_st ho (by unfold oLoadJ; dsimp only; rw [hi]) k
theorem ur_svJ {x : Int64} (ho : aAt T pc = some (.inl (oStJ n i)))  (k : uRun T (uCall Mt d) Q n (aSt2 al i (.inr (.inl x)), st, h, kc, ks)) : uRun T (uCall Mt d) Q pc (al, .inr (.inl x) :: st, h, kc, ks) := ur_st ho (rfl) k
theorem ur_ldA {x : Option Nat} (ho : aAt T pc = some (.inl (oLoadA n i))) (hi : al[i]? = some (some (.inr (.inr x)))) (k : uRun T (uCall Mt d) Q n (al, .inr (.inr x) :: st, h, kc, ks)) : uRun T (uCall Mt d) Q pc (al, st, h, kc, ks) := ur_st ho (by unfold oLoadA; dsimp only; rw [hi]) k
theorem ur_svA {x : Option Nat} (ho : aAt T pc = some (.inl (oStA n i)))  (k : uRun T (uCall Mt d) Q n (aSt1 al i (.inr (.inr x)), st, h, kc, ks)) : uRun T (uCall Mt d) Q pc (al, .inr (.inr x) :: st, h, kc, ks) := ur_st ho (rfl) k
theorem ur_inc {x dd : Int32} (ho : aAt T pc = some (.inl (oInc n i dd))) (hi : al[i]? = some (some (.inl x))) (k : uRun T (uCall Mt d) Q n (aSt1 al i (.inl (x + dd)), st, h, kc, ks)) : uRun T (uCall Mt d) Q pc (al, st, h, kc, ks) := ur_st ho (by unfold oInc; dsimp only; rw [hi]) k
theorem ur_bin {x y : Int32} {q : Int32 → Int32 → Int32} (ho : aAt T pc = some (.inl (oBin n q)))  (k : uRun T (uCall Mt d) Q n (al, .inl (q x y) :: st, h, kc, ks)) : uRun T (uCall Mt d) Q pc (al, .inl y :: .inl x :: st, h, kc, ks) := ur_st ho (rfl) k
theorem ur_un {x : Int32} {q : Int32 → Int32} (ho : aAt T pc = some (.inl (oUn n q)))  (k : uRun T (uCall Mt d) Q n (al, .inl (q x) :: st, h, kc, ks)) : uRun T (uCall Mt d) Q pc (al, .inl x :: st, h, kc, ks) := ur_st ho (rfl) k
theorem ur_div {x y : Int32} {q : Int32 → Int32 → Int32} (ho : aAt T pc = some (.inl (oDiv n q))) (hy : ¬ y = 0) (k : uRun T (uCall Mt d) Q n (al, .inl (q x y) :: st, h, kc, ks)) : uRun T (uCall Mt d) Q pc (al, .inl y :: .inl x :: st, h, kc, ks) := ur_st ho (by unfold oDiv; dsimp only; rw [if_neg hy]) k
theorem ur_binJ {x y : Int64} {q : Int64 → Int64 → Int64} (ho : aAt T pc = some (.inl (oBinJ n q)))  (k : uRun T (uCall Mt d) Q n (al, .inr (.inl (q x y)) :: st, h, kc, ks)) : uRun T (uCall Mt d) Q pc (al, .inr (.inl y) :: .inr (.inl x) :: st, h, kc, ks) := ur_st ho (rfl) k
theorem ur_cmpJ {x y : Int64} {q : Int64 → Int64 → Int32} (ho : aAt T pc = some (.inl (oCmpJ n q)))  (k : uRun T (uCall Mt d) Q n (al, .inl (q x y) :: st, h, kc, ks)) : uRun T (uCall Mt d) Q pc (al, .inr (.inl y) :: .inr (.inl x) :: st, h, kc, ks) := ur_st ho (rfl) k
theorem ur_shJ {x : Int64} {y : Int32} {q : Int64 → Int32 → Int64} (ho : aAt T pc = some (.inl (oShJ n q)))  (k : uRun T (uCall Mt d) Q n (al, .inr (.inl (q x y)) :: st, h, kc, ks)) : uRun T (uCall Mt d) Q pc (al, .inl y :: .inr (.inl x) :: st, h, kc, ks) := ur_st ho (rfl) k
theorem ur_i2l {x : Int32} (ho : aAt T pc = some (.inl (oI2L n)))  (k : uRun T (uCall Mt d) Q n (al, .inr (.inl x.toInt64) :: st, h, kc, ks)) : uRun T (uCall Mt d) Q pc (al, .inl x :: st, h, kc, ks) := ur_st ho (rfl) k
theorem ur_l2i {x : Int64} (ho : aAt T pc = some (.inl (oL2I n)))  (k : uRun T (uCall Mt d) Q n (al, .inl x.toInt32 :: st, h, kc, ks)) : uRun T (uCall Mt d) Q pc (al, .inr (.inl x) :: st, h, kc, ks) := ur_st ho (rfl) k
theorem ur_go  (ho : aAt T pc = some (.inl (oGo n)))  (k : uRun T (uCall Mt d) Q n (al, st, h, kc, ks)) : uRun T (uCall Mt d) Q pc (al, st, h, kc, ks) := ur_st ho (rfl) k
theorem ur_dup {v : aV} (ho : aAt T pc = some (.inl (oDup n))) (hv : a1 v = true) (k : uRun T (uCall Mt d) Q n (al, v :: v :: st, h, kc, ks)) : uRun T (uCall Mt d) Q pc (al, v :: st, h, kc, ks) := ur_st ho (by unfold oDup; dsimp only; rw [hv]; rfl) k
theorem ur_pop {v : aV} (ho : aAt T pc = some (.inl (oPop n))) (hv : a1 v = true) (k : uRun T (uCall Mt d) Q n (al, st, h, kc, ks)) : uRun T (uCall Mt d) Q pc (al, v :: st, h, kc, ks) := ur_st ho (by unfold oPop; dsimp only; rw [hv]; rfl) k
theorem ur_dup2 {v w : aV} (ho : aAt T pc = some (.inl (oDup2 n))) (hv : a1 v = true) (hw : a1 w = true) (k : uRun T (uCall Mt d) Q n (al, v :: w :: v :: w :: st, h, kc, ks)) : uRun T (uCall Mt d) Q pc (al, v :: w :: st, h, kc, ks) := ur_st ho (by unfold oDup2; dsimp only; rw [hv, hw]; rfl) k
theorem ur_nulN {t : Nat} (ho : aAt T pc = some (.inl (oNul n t)))  (k : uRun T (uCall Mt d) Q n (al, st, h, kc, ks)) : uRun T (uCall Mt d) Q pc (al, .inr (.inr none) :: st, h, kc, ks) := ur_st ho (rfl) k
theorem ur_nulS {t a : Nat} (ho : aAt T pc = some (.inl (oNul t n)))  (k : uRun T (uCall Mt d) Q n (al, st, h, kc, ks)) : uRun T (uCall Mt d) Q pc (al, .inr (.inr (some a)) :: st, h, kc, ks) := ur_st ho (rfl) k
theorem ur_if1t {x : Int32} {q : Int32 → Bool} {t : Nat} (ho : aAt T pc = some (.inl (oIf1 n t q))) (hq : q x = true) (k : uRun T (uCall Mt d) Q n (al, st, h, kc, ks)) : uRun T (uCall Mt d) Q pc (al, .inl x :: st, h, kc, ks) := ur_st ho (by unfold oIf1; dsimp only; rw [hq]; rfl) k
theorem ur_if1f {x : Int32} {q : Int32 → Bool} {t : Nat} (ho : aAt T pc = some (.inl (oIf1 t n q))) (hq : q x = false) (k : uRun T (uCall Mt d) Q n (al, st, h, kc, ks)) : uRun T (uCall Mt d) Q pc (al, .inl x :: st, h, kc, ks) := ur_st ho (by unfold oIf1; dsimp only; rw [hq]; rfl) k
theorem ur_if1 {x : Int32} {q : Int32 → Bool} {t : Nat} (ho : aAt T pc = some (.inl (oIf1 t n q))) (kt : q x = true → uRun T (uCall Mt d) Q t (al, st, h, kc, ks)) (kf : q x = false → uRun T (uCall Mt d) Q n (al, st, h, kc, ks)) : uRun T (uCall Mt d) Q pc (al, .inl x :: st, h, kc, ks) := by
  cases hq : q x with
  | true => exact ur_if1t ho hq (kt hq)
  | false => exact ur_if1f ho hq (kf hq)
theorem ur_if2t {x y : Int32} {q : Int32 → Int32 → Bool} {t : Nat} (ho : aAt T pc = some (.inl (oIf2 n t q))) (hq : q x y = true) (k : uRun T (uCall Mt d) Q n (al, st, h, kc, ks)) : uRun T (uCall Mt d) Q pc (al, .inl y :: .inl x :: st, h, kc, ks) := ur_st ho (by unfold oIf2; dsimp only; rw [hq]; rfl) k
theorem ur_if2f {x y : Int32} {q : Int32 → Int32 → Bool} {t : Nat} (ho : aAt T pc = some (.inl (oIf2 t n q))) (hq : q x y = false) (k : uRun T (uCall Mt d) Q n (al, st, h, kc, ks)) : uRun T (uCall Mt d) Q pc (al, .inl y :: .inl x :: st, h, kc, ks) := ur_st ho (by unfold oIf2; dsimp only; rw [hq]; rfl) k
theorem ur_if2 {x y : Int32} {q : Int32 → Int32 → Bool} {t : Nat} (ho : aAt T pc = some (.inl (oIf2 t n q))) (kt : q x y = true → uRun T (uCall Mt d) Q t (al, st, h, kc, ks)) (kf : q x y = false → uRun T (uCall Mt d) Q n (al, st, h, kc, ks)) : uRun T (uCall Mt d) Q pc (al, .inl y :: .inl x :: st, h, kc, ks) := by
  cases hq : q x y with
  | true => exact ur_if2t ho hq (kt hq)
  | false => exact ur_if2f ho hq (kf hq)
theorem ur_get {a ci k0 : Nat} {fs : List aV} {v : aV} (ho : aAt T pc = some (.inl (oGet n ci k0))) (ha : h[a]? = some (.inl (ci, fs))) (hv : fs[k0]? = some v) (k : uRun T (uCall Mt d) Q n (al, v :: st, h, kc, ks)) : uRun T (uCall Mt d) Q pc (al, .inr (.inr (some a)) :: st, h, kc, ks) := ur_st ho (by unfold oGet; dsimp only; rw [ha]; dsimp only; rw [if_pos rfl, hv]) k
theorem ur_put {a ci k0 : Nat} {fs : List aV} {v : aV} {ty : FieldType} (ho : aAt T pc = some (.inl (oPut n ci k0 ty))) (ha : h[a]? = some (.inl (ci, fs))) (hl : k0 < fs.length) (hf : aFit ty v = true) (k : uRun T (uCall Mt d) Q n (al, st, h.set a (.inl (ci, fs.set k0 v)), kc, ks)) : uRun T (uCall Mt d) Q pc (al, v :: .inr (.inr (some a)) :: st, h, kc, ks) := ur_st ho (by unfold oPut; dsimp only; rw [ha]; dsimp only; rw [if_pos ⟨rfl, hl⟩, hf]; rfl) k
theorem ur_ald {a kd : Nat} {xs : List Int32} {j x : Int32} (ho : aAt T pc = some (.inl (oAld n kd))) (ha : h[a]? = some (.inr (kd, .inl xs))) (h0 : ¬ j < 0) (hx : xs[j.toNatClampNeg]? = some x) (k : uRun T (uCall Mt d) Q n (al, .inl x :: st, h, kc, ks)) : uRun T (uCall Mt d) Q pc (al, .inl j :: .inr (.inr (some a)) :: st, h, kc, ks) := ur_st ho (by unfold oAld; dsimp only; rw [ha]; dsimp only; rw [if_pos ⟨rfl, h0⟩, hx]) k
theorem ur_aldJ {a : Nat} {xs : List Int64} {j : Int32} {x : Int64} (ho : aAt T pc = some (.inl (oAldJ n))) (ha : h[a]? = some (.inr (4, .inr (.inl xs)))) (h0 : ¬ j < 0) (hx : xs[j.toNatClampNeg]? = some x) (k : uRun T (uCall Mt d) Q n (al, .inr (.inl x) :: st, h, kc, ks)) : uRun T (uCall Mt d) Q pc (al, .inl j :: .inr (.inr (some a)) :: st, h, kc, ks) := ur_st ho (by unfold oAldJ; dsimp only; rw [ha]; dsimp only; rw [if_pos ⟨rfl, h0⟩, hx]) k
theorem ur_aldA {a kd : Nat} {xs : List (Option Nat)} {j : Int32} {x : Option Nat} (ho : aAt T pc = some (.inl (oAldA n kd))) (ha : h[a]? = some (.inr (kd, .inr (.inr xs)))) (h0 : ¬ j < 0) (hx : xs[j.toNatClampNeg]? = some x) (k : uRun T (uCall Mt d) Q n (al, .inr (.inr x) :: st, h, kc, ks)) : uRun T (uCall Mt d) Q pc (al, .inl j :: .inr (.inr (some a)) :: st, h, kc, ks) := ur_st ho (by unfold oAldA; dsimp only; rw [ha]; dsimp only; rw [if_pos ⟨rfl, h0⟩, hx]) k
theorem ur_ast {a kd : Nat} {xs : List Int32} {j x : Int32} {nar : Int32 → Int32} (ho : aAt T pc = some (.inl (oAst n kd nar))) (ha : h[a]? = some (.inr (kd, .inl xs))) (h0 : ¬ j < 0) (hx : j.toNatClampNeg < xs.length) (k : uRun T (uCall Mt d) Q n (al, st, h.set a (.inr (kd, .inl (xs.set j.toNatClampNeg (nar x)))), kc, ks)) : uRun T (uCall Mt d) Q pc (al, .inl x :: .inl j :: .inr (.inr (some a)) :: st, h, kc, ks) := ur_st ho (by unfold oAst; dsimp only; rw [ha]; dsimp only; rw [if_pos ⟨rfl, h0, hx⟩]) k
theorem ur_astJ {a : Nat} {xs : List Int64} {j : Int32} {x : Int64} (ho : aAt T pc = some (.inl (oAstJ n))) (ha : h[a]? = some (.inr (4, .inr (.inl xs)))) (h0 : ¬ j < 0) (hx : j.toNatClampNeg < xs.length) (k : uRun T (uCall Mt d) Q n (al, st, h.set a (.inr (4, .inr (.inl (xs.set j.toNatClampNeg x)))), kc, ks)) : uRun T (uCall Mt d) Q pc (al, .inr (.inl x) :: .inl j :: .inr (.inr (some a)) :: st, h, kc, ks) := ur_st ho (by unfold oAstJ; dsimp only; rw [ha]; dsimp only; rw [if_pos ⟨rfl, h0, hx⟩]) k
theorem ur_astA {a v kd ci : Nat} {xs : List (Option Nat)} {fs : List aV} {j : Int32} (ho : aAt T pc = some (.inl (oAstA n kd ci))) (ha : h[a]? = some (.inr (kd, .inr (.inr xs)))) (hv : h[v]? = some (.inl (ci, fs))) (h0 : ¬ j < 0) (hx : j.toNatClampNeg < xs.length) (k : uRun T (uCall Mt d) Q n (al, st, h.set a (.inr (kd, .inr (.inr (xs.set j.toNatClampNeg (some v))))), kc, ks)) : uRun T (uCall Mt d) Q pc (al, .inr (.inr (some v)) :: .inl j :: .inr (.inr (some a)) :: st, h, kc, ks) := ur_st ho (by unfold oAstA; dsimp only; rw [ha, hv]; dsimp only; rw [if_pos ⟨⟨rfl, rfl⟩, h0, hx⟩]) k
theorem ur_len {a kd : Nat} {x : aArr} (ho : aAt T pc = some (.inl (oLen n))) (ha : h[a]? = some (.inr (kd, x))) (k : uRun T (uCall Mt d) Q n (al, .inl (Int32.ofNat (aLen x)) :: st, h, kc, ks)) : uRun T (uCall Mt d) Q pc (al, .inr (.inr (some a)) :: st, h, kc, ks) := ur_st ho (by unfold oLen; dsimp only; rw [ha]) k
theorem ur_obj {a : Nat} (ho : aAt T pc = some (.inl (oObj n))) (hl : st.length ≤ 8) (k : uRun T (uCall Mt d) Q n (al, st, h, kc, ks)) : uRun T (uCall Mt d) Q pc (al, .inr (.inr (some a)) :: st, h, kc, ks) := ur_st ho (by unfold oObj; dsimp only; rw [if_pos hl]) k
theorem ur_abs {x : Int32} (ho : aAt T pc = some (.inl (oMabs n))) (hl : ¬ (9 ≤ (.inl x :: st : List aV).length)) (k : uRun T (uCall Mt d) Q n (al, .inl (if 0 ≤ x then x else 0 - x) :: st, h, kc, ks)) : uRun T (uCall Mt d) Q pc (al, .inl x :: st, h, kc, ks) := ur_st ho (by unfold oMabs; dsimp only; rw [if_neg hl]; rfl) k
theorem ur_max {x y : Int32} (ho : aAt T pc = some (.inl (oMmax n))) (hl : ¬ (9 ≤ (.inl y :: .inl x :: st : List aV).length)) (k : uRun T (uCall Mt d) Q n (al, .inl (if x < y then y else x) :: st, h, kc, ks)) : uRun T (uCall Mt d) Q pc (al, .inl y :: .inl x :: st, h, kc, ks) := ur_st ho (by unfold oMmax; dsimp only; rw [if_neg hl]; rfl) k
theorem ur_min {x y : Int32} (ho : aAt T pc = some (.inl (oMmin n))) (hl : ¬ (9 ≤ (.inl y :: .inl x :: st : List aV).length)) (k : uRun T (uCall Mt d) Q n (al, .inl (if y < x then y else x) :: st, h, kc, ks)) : uRun T (uCall Mt d) Q pc (al, .inl y :: .inl x :: st, h, kc, ks) := ur_st ho (by unfold oMmin; dsimp only; rw [if_neg hl]; rfl) k
theorem ur_tabO {x : Int32} {dd : Nat} {lo : Int} {ts : List Nat} (ho : aAt T pc = some (.inl (oTab dd lo ts))) (hq : x.toInt < lo ∨ lo + ts.length ≤ x.toInt) (k : uRun T (uCall Mt d) Q dd (al, st, h, kc, ks)) : uRun T (uCall Mt d) Q pc (al, .inl x :: st, h, kc, ks) := ur_st ho (by
  unfold oTab
  dsimp only
  by_cases q : x.toInt < lo
  · rw [if_pos q]
  · rw [if_neg q, List.getElem?_eq_none (by omega)]) k
theorem ur_tabI {x : Int32} {dd t : Nat} {lo : Int} {ts : List Nat} (ho : aAt T pc = some (.inl (oTab dd lo ts))) (hq : ¬ x.toInt < lo) (ht : ts[(x.toInt - lo).toNat]? = some t) (k : uRun T (uCall Mt d) Q t (al, st, h, kc, ks)) : uRun T (uCall Mt d) Q pc (al, .inl x :: st, h, kc, ks) := ur_st ho (by
  unfold oTab
  dsimp only
  rw [if_neg hq, ht]) k
theorem ur_ret0 (ho : aAt T pc = some (.inr (.inr 0))) (k : Q none h) : uRun T (uCall Mt d) Q pc (al, [], h, kc, ks) := ur_in ho ⟨rfl, k⟩
theorem ur_ret {q : Nat} {v : aV} (ho : aAt T pc = some (.inr (.inr q))) (hv : aRet q v = true) (k : Q (some v) h) : uRun T (uCall Mt d) Q pc (al, [v], h, kc, ks) := ur_in ho ⟨hv, k⟩
theorem ur_new {ci : Nat} {dfs : List aV} (ho : aAt T pc = some (.inl (oNew n ci dfs))) (h2 : dfs.length ≤ uM) (k : uRun T (uCall Mt d) Q n (al, .inr (.inr (some h.length)) :: st, h ++ [.inl (ci, dfs)], kc, ks)) : uRun T (uCall Mt d) Q pc (al, st, h, kc, ks) := ur_st ho (by unfold oNew; dsimp only; rw [if_pos ⟨by decide, h2⟩]) k
theorem ur_newI {j : Int32} {kd : Nat} (ho : aAt T pc = some (.inl (oNewI n kd))) (h0 : ¬ j < 0) (h3 : j.toNatClampNeg ≤ 60000) (k : uRun T (uCall Mt d) Q n (al, .inr (.inr (some h.length)) :: st, h ++ [.inr (kd, .inl (List.replicate j.toNatClampNeg 0))], kc, ks)) : uRun T (uCall Mt d) Q pc (al, .inl j :: st, h, kc, ks) := ur_st ho (by unfold oNewI; dsimp only; rw [if_pos ⟨h0, h3, by decide, Nat.le_trans h3 (by decide)⟩]) k
theorem ur_newJ {j : Int32} (ho : aAt T pc = some (.inl (oNewJ n))) (h0 : ¬ j < 0) (h3 : j.toNatClampNeg ≤ 60000) (k : uRun T (uCall Mt d) Q n (al, .inr (.inr (some h.length)) :: st, h ++ [.inr (4, .inr (.inl (List.replicate j.toNatClampNeg 0)))], kc, ks)) : uRun T (uCall Mt d) Q pc (al, .inl j :: st, h, kc, ks) := ur_st ho (by unfold oNewJ; dsimp only; rw [if_pos ⟨h0, h3, by decide, Nat.le_trans h3 (by decide)⟩]) k
theorem ur_rd1 {x : Int32} {l : List Int32} {v : Int32} (ho : aAt T pc = some (.inl (oRd1 n i l))) (hi : al[i]? = some (some (.inl x))) (h0 : 0 ≤ x.toInt) (h1 : x.toInt < l.length) (hv : l.getD x.toInt.toNat 0 = v) (k : uRun T (uCall Mt d) Q n (al, .inl v :: st, h, kc, ks)) : uRun T (uCall Mt d) Q pc (al, st, h, kc, ks) := ur_st ho (by
  unfold oRd1
  dsimp only
  rw [hi]
  dsimp only
  rw [if_pos ⟨fun q => by have := Int32.lt_iff_toInt_lt.mp q; rw [show (0 : Int32).toInt = 0 by decide] at this; omega, by show x.toInt.toNat < l.length; omega⟩]
  rw [show x.toNatClampNeg = x.toInt.toNat from rfl, hv]) k
theorem ur_rd4 {j : Nat} {x y z : Int32} {l : List Int32} {v : Int32} (ho : aAt T pc = some (.inl (oRd4 n i j l))) (hi : al[i]? = some (some (.inl x))) (hj : al[j]? = some (some (.inl y))) (hz : x * 4 + y = z) (h0 : 0 ≤ z.toInt) (h1 : z.toInt < l.length) (hv : l.getD z.toInt.toNat 0 = v) (k : uRun T (uCall Mt d) Q n (al, .inl v :: st, h, kc, ks)) : uRun T (uCall Mt d) Q pc (al, st, h, kc, ks) := ur_st ho (by
  unfold oRd4
  dsimp only
  rw [hi]
  dsimp only
  rw [hj]
  dsimp only
  rw [hz, if_pos ⟨fun q => by have := Int32.lt_iff_toInt_lt.mp q; rw [show (0 : Int32).toInt = 0 by decide] at this; omega, by show z.toInt.toNat < l.length; omega⟩]
  rw [show z.toNatClampNeg = z.toInt.toNat from rfl, hv]) k
theorem ur_idx {x : Int32} (ho : aAt T pc = some (.inl (oIdx n i))) (hi : al[i]? = some (some (.inl x))) (h0 : 97 ≤ x.toInt) (h1 : x.toInt ≤ 122) (hl : st.length ≤ 2) (k : uRun T (uCall Mt d) Q n (al, .inl (ixF x lNm 0) :: st, h, kc, ks)) : uRun T (uCall Mt d) Q pc (al, st, h, kc, ks) := ur_st ho (by
  unfold oIdx
  dsimp only
  rw [hi]
  dsimp only
  rw [if_pos ⟨Int32.le_iff_toInt_le.mpr (by rw [show (97 : Int32).toInt = 97 by decide]; omega), Int32.le_iff_toInt_le.mpr (by rw [show (122 : Int32).toInt = 122 by decide]; omega), hl⟩]) k
theorem ur_cpI {m dp sp : Int32} {a1 a0 : Nat} {xs ys : List Int32} (ho : aAt T pc = some (.inl (oCpI n))) (ha0 : h[a0]? = some (.inr (0, .inl xs))) (ha1 : h[a1]? = some (.inr (0, .inl ys))) (b1 : 0 ≤ sp.toInt) (b2 : 0 ≤ dp.toInt) (b3 : 0 ≤ m.toInt) (b4 : sp.toInt + m.toInt ≤ xs.length) (b5 : dp.toInt + m.toInt ≤ ys.length) (b6 : st.length ≤ 4) (k : uRun T (uCall Mt d) Q n (al, st, h.set a1 (.inr (0, .inl (cpL 0 xs ys sp.toNatClampNeg dp.toNatClampNeg m.toNatClampNeg))), kc, ks)) : uRun T (uCall Mt d) Q pc (al, .inl m :: .inl dp :: .inr (.inr (some a1)) :: .inl sp :: .inr (.inr (some a0)) :: st, h, kc, ks) := ur_st ho (by
  have nn : ∀ z : Int32, 0 ≤ z.toInt → ¬ z < 0 := fun z hz q => by have := Int32.lt_iff_toInt_lt.mp q; rw [show (0 : Int32).toInt = 0 by decide] at this; omega
  unfold oCpI
  try dsimp only
  rw [ha0]
  try dsimp only
  rw [ha1]
  try dsimp only
  refine Eq.trans (if_pos ?_) rfl
  exact ⟨nn _ b1, nn _ b2, nn _ b3, by show sp.toInt.toNat + m.toInt.toNat ≤ _; omega, by show dp.toInt.toNat + m.toInt.toNat ≤ _; omega, b6⟩) k
theorem ur_cpJ {m dp sp : Int32} {a1 a0 : Nat} {xs ys : List Int64} (ho : aAt T pc = some (.inl (oCpJ n))) (ha0 : h[a0]? = some (.inr (4, .inr (.inl xs)))) (ha1 : h[a1]? = some (.inr (4, .inr (.inl ys)))) (b1 : 0 ≤ sp.toInt) (b2 : 0 ≤ dp.toInt) (b3 : 0 ≤ m.toInt) (b4 : sp.toInt + m.toInt ≤ xs.length) (b5 : dp.toInt + m.toInt ≤ ys.length) (b6 : st.length ≤ 4) (k : uRun T (uCall Mt d) Q n (al, st, h.set a1 (.inr (4, .inr (.inl (cpL 0 xs ys sp.toNatClampNeg dp.toNatClampNeg m.toNatClampNeg)))), kc, ks)) : uRun T (uCall Mt d) Q pc (al, .inl m :: .inl dp :: .inr (.inr (some a1)) :: .inl sp :: .inr (.inr (some a0)) :: st, h, kc, ks) := ur_st ho (by
  have nn : ∀ z : Int32, 0 ≤ z.toInt → ¬ z < 0 := fun z hz q => by have := Int32.lt_iff_toInt_lt.mp q; rw [show (0 : Int32).toInt = 0 by decide] at this; omega
  unfold oCpJ
  try dsimp only
  rw [ha0]
  try dsimp only
  rw [ha1]
  try dsimp only
  refine Eq.trans (if_pos ?_) rfl
  exact ⟨nn _ b1, nn _ b2, nn _ b3, by show sp.toInt.toNat + m.toInt.toNat ≤ _; omega, by show dp.toInt.toNat + m.toInt.toNat ≤ _; omega, b6⟩) k
/-- a call, by what is known of it -/
theorem ur_inl {mi q ck : Nat} (ho : aAt T pc = some (.inr (.inl (mi, q, ck)))) (hck : aRcv ck h (st.take q).reverse = true) (hq : q ≤ st.length) (hr : (st.drop q).length ≤ 4) (hc : uCall Mt d mi (st.take q).reverse h 0 0 (fun v h' => uRun T (uCall Mt d) Q (pc + 3) (al, v.toList ++ st.drop q, h', kc, ks))) : uRun T (uCall Mt d) Q pc (al, st, h, kc, ks) := ur_in ho ⟨hck, hq, hr, hc⟩
/-- a call that answers v and leaves the heap -/
theorem ur_callv {mi q ck : Nat} {vs : List aV} {v : aV} (ho : aAt T pc = some (.inr (.inl (mi, q, ck)))) (hvs : (st.take q).reverse = vs) (hq : q ≤ st.length) (hr : (st.drop q).length ≤ 4) (hck : aRcv ck h vs = true) (hc : uCall Mt d mi vs h 0 0 (fun r h' => r = some v ∧ h' = h))
    (k : uRun T (uCall Mt d) Q (pc + 3) (al, v :: st.drop q, h, kc, ks)) : uRun T (uCall Mt d) Q pc (al, st, h, kc, ks) := ur_inl ho (by rw [hvs]; exact hck) hq hr (by
  rw [hvs]
  refine uc_post hc (fun r h' e => ?_)
  obtain ⟨rfl, rfl⟩ := e
  exact k)
end UPU
