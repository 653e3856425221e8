/-! THE ABSTRACT RUN AS A FUNCTION: for runs that the kernel works out -/
section EXE
/-- a call by what 'call' answers; its cells and slots by 'bud' -/
def exR (bud : Nat → Nat × Nat) (call : Nat → List aV → aH → Option (Option aV × aH)) (T : aTab) : Nat → Nat → aF → Option (Option aV × aH)
  | 0, _, _ => none
  | n + 1, pc, f => match aAt T pc with
    | none => none
    | some (.inl g) => match g f with
      | some r => exR bud call T n r.1 r.2
      | none => none
    | some (.inr (.inl q)) => bif aRcv q.2.2 f.2.2.1 (f.2.1.take q.2.1).reverse && (Nat.ble q.2.1 f.2.1.length && (Nat.ble (f.2.1.drop q.2.1).length 4 && (Nat.ble (bud q.1).1 f.2.2.2.1 && Nat.ble (bud q.1).2 f.2.2.2.2))) then
        match call q.1 (f.2.1.take q.2.1).reverse f.2.2.1 with
        | some r => exR bud call T n (pc + 3) (f.1, r.1.toList ++ f.2.1.drop q.2.1, r.2, f.2.2.2.1 - (bud q.1).1, f.2.2.2.2 - (bud q.1).2)
        | none => none
      else none
    | some (.inr (.inr k)) => match f.2.1 with
      | [] => bif Nat.beq k 0 then some (none, f.2.2.1) else none
      | [v] => bif aRet k v then some (some v, f.2.2.1) else none
      | _ => none
noncomputable def exM (bud : Nat → Nat × Nat) (n : Nat) : Nat → Nat → List aV → aH → Option (Option aV × aH)
  | 0, _, _, _ => none
  | d + 1, mi, vs, h => match Mt[mi]? with
    | none => none
    | some M => bif Nat.ble (aEn vs).length M.2.2.1 then exR bud (exM bud n d) M.2.2.2.2 n 0 (aEnt vs M.2.2.1, [], h, (bud mi).1, (bud mi).2) else none
theorem exR_ok {bud : Nat → Nat × Nat} {call : Nat → List aV → aH → Option (Option aV × aH)} {d : Nat} (hcall : ∀ mi vs h r, call mi vs h = some r → aCall Mt d mi vs h (bud mi).1 (bud mi).2 (fun v h' => (v, h') = r)) {T : aTab} : ∀ (n pc : Nat) (f : aF) (r : Option aV × aH), exR bud call T n pc f = some r → aRun T (aCall Mt d) (fun v h' => (v, h') = r) pc f
  | 0, pc, f, r, h => by cases h
  | n + 1, pc, f, r, h => by
    unfold exR at h
    cases ho : aAt T pc with
    | none => rw [ho] at h; cases h
    | some o =>
      rw [ho] at h
      match o, ho, h with
      | .inl g, ho, h =>
        dsimp only at h
        cases hg : g f with
        | none => rw [hg] at h; cases h
        | some q =>
          rw [hg] at h
          exact ar_st ho hg (exR_ok hcall n q.1 q.2 r h)
      | .inr (.inl q), ho, h =>
        dsimp only at h
        cases hb : (aRcv q.2.2 f.2.2.1 (f.2.1.take q.2.1).reverse && (Nat.ble q.2.1 f.2.1.length && (Nat.ble (f.2.1.drop q.2.1).length 4 && (Nat.ble (bud q.1).1 f.2.2.2.1 && Nat.ble (bud q.1).2 f.2.2.2.2)))) with
        | false => rw [hb] at h; cases h
        | true =>
          rw [hb] at h
          simp only [Bool.and_eq_true] at hb
          obtain ⟨b1, b2, b3, b4, b5⟩ := hb
          cases hc : call q.1 (f.2.1.take q.2.1).reverse f.2.2.1 with
          | none => rw [hc] at h; cases h
          | some w =>
            rw [hc] at h
            refine ar_in ho ⟨_, _, b1, Nat.le_of_ble_eq_true b2, Nat.le_of_ble_eq_true b3, Nat.le_of_ble_eq_true b4, Nat.le_of_ble_eq_true b5, ac_post (hcall _ _ _ _ hc) (fun v h' e => ?_)⟩
            cases e
            exact exR_ok hcall n (pc + 3) _ r h
      | .inr (.inr k), ho, h =>
        dsimp only at h
        refine ar_in ho ?_
        show (match f.2.1 with
          | [] => k = 0 ∧ (none, f.2.2.1) = r
          | [v] => aRet k v = true ∧ (some v, f.2.2.1) = r
          | _ => False)
        split at h
        · cases hk : Nat.beq k 0 with
          | false => rw [hk] at h; cases h
          | true => rw [hk] at h; cases h; exact ⟨Nat.eq_of_beq_eq_true hk, rfl⟩
        · rename_i v _
          cases hk : aRet k v with
          | false => rw [hk] at h; cases h
          | true => rw [hk] at h; cases h; exact ⟨rfl, rfl⟩
        · cases h
theorem exM_ok {bud : Nat → Nat × Nat} {n : Nat} : ∀ (d mi : Nat) (vs : List aV) (h : aH) (r : Option aV × aH), exM bud n d mi vs h = some r → aCall Mt d mi vs h (bud mi).1 (bud mi).2 (fun v h' => (v, h') = r)
  | 0, _, _, _, _, h => by cases h
  | d + 1, mi, vs, h, r, he => by
    unfold exM at he
    cases hM : Mt[mi]? with
    | none => rw [hM] at he; cases he
    | some M =>
      rw [hM] at he
      dsimp only at he
      cases hb : Nat.ble (aEn vs).length M.2.2.1 with
      | false => rw [hb] at he; cases he
      | true =>
        rw [hb] at he
        exact ac_in hM (Nat.le_of_ble_eq_true hb) (exR_ok (exM_ok d) n 0 _ r he)
/-- a run that the kernel works out -/
theorem ex_run {bud : Nat → Nat × Nat} {n d mi : Nat} {vs : List aV} {h : aH} {v : Option aV} {h' : aH} (he : exM bud n d mi vs h = some (v, h')) : aCall Mt d mi vs h (bud mi).1 (bud mi).2 (fun r g => r = v ∧ g = h') := ac_post (exM_ok d mi vs h _ he) (fun r g e => by cases e; exact ⟨rfl, rfl⟩)
end EXE
/-! equality of heaps, for the kernel -/
def eqLs {α : Type} (e : α → α → Bool) : List α → List α → Bool
  | [], [] => true
  | a :: s, b :: t => e a b && eqLs e s t
  | _, _ => false
theorem eqLs_ok {α : Type} {e : α → α → Bool} (he : ∀ a b, e a b = true → a = b) : ∀ s t : List α, eqLs e s t = true → s = t
  | [], [], _ => rfl
  | a :: s, b :: t, h => by
    simp only [eqLs, Bool.and_eq_true] at h
    rw [he _ _ h.1, eqLs_ok he s t h.2]
  | [], _ :: _, h => by cases h
  | _ :: _, [], h => by cases h
def eqO (a b : Option Nat) : Bool := match a, b with
  | none, none => true
  | some x, some y => Nat.beq x y
  | _, _ => false
theorem eqO_ok : ∀ a b, eqO a b = true → a = b
  | none, none, _ => rfl
  | some x, some y, h => by rw [Nat.eq_of_beq_eq_true h]
  | none, some _, h => by cases h
  | some _, none, h => by cases h
def eqI (a b : Int32) : Bool := decide (a = b)
theorem eqI_ok (a b : Int32) (h : eqI a b = true) : a = b := of_decide_eq_true h
def eqJ (a b : Int64) : Bool := decide (a = b)
theorem eqJ_ok (a b : Int64) (h : eqJ a b = true) : a = b := of_decide_eq_true h
def eqV (a b : aV) : Bool := match a, b with
  | .inl x, .inl y => eqI x y
  | .inr (.inl x), .inr (.inl y) => eqJ x y
  | .inr (.inr x), .inr (.inr y) => eqO x y
  | _, _ => false
theorem eqV_ok (a b : aV) (h : eqV a b = true) : a = b := by
  match a, b, h with
  | .inl x, .inl y, h => rw [eqI_ok x y h]
  | .inr (.inl x), .inr (.inl y), h => rw [eqJ_ok x y h]
  | .inr (.inr x), .inr (.inr y), h => rw [eqO_ok x y h]
def eqA (a b : aArr) : Bool := match a, b with
  | .inl x, .inl y => eqLs eqI x y
  | .inr (.inl x), .inr (.inl y) => eqLs eqJ x y
  | .inr (.inr x), .inr (.inr y) => eqLs eqO x y
  | _, _ => false
theorem eqA_ok (a b : aArr) (h : eqA a b = true) : a = b := by
  match a, b, h with
  | .inl x, .inl y, h => rw [eqLs_ok eqI_ok x y h]
  | .inr (.inl x), .inr (.inl y), h => rw [eqLs_ok eqJ_ok x y h]
  | .inr (.inr x), .inr (.inr y), h => rw [eqLs_ok eqO_ok x y h]
def eqC (a b : aC) : Bool := match a, b with
  | .inl x, .inl y => Nat.beq x.1 y.1 && eqLs eqV x.2 y.2
  | .inr x, .inr y => Nat.beq x.1 y.1 && eqA x.2 y.2
  | _, _ => false
theorem eqC_ok (a b : aC) (h : eqC a b = true) : a = b := by
  match a, b, h with
  | .inl (m, x), .inl (n, y), h =>
    simp only [eqC, Bool.and_eq_true] at h
    have h1 : m = n := Nat.eq_of_beq_eq_true h.1
    rw [h1, eqLs_ok eqV_ok x y h.2]
  | .inr (m, x), .inr (n, y), h =>
    simp only [eqC, Bool.and_eq_true] at h
    have h1 : m = n := Nat.eq_of_beq_eq_true h.1
    rw [h1, eqA_ok x y h.2]
def eqR (a b : Option (Option aV × aH)) : Bool := match a, b with
  | some (none, g), some (none, h) => eqLs eqC g h
  | some (some v, g), some (some w, h) => eqV v w && eqLs eqC g h
  | _, _ => false
theorem eqR_ok (a b : Option (Option aV × aH)) (h : eqR a b = true) : a = b := by
  match a, b, h with
  | some (none, g), some (none, k), h => rw [eqLs_ok eqC_ok g k h]
  | some (some v, g), some (some w, k), h =>
    simp only [eqR, Bool.and_eq_true] at h
    rw [eqV_ok v w h.1, eqLs_ok eqC_ok g k h.2]
