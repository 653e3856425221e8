section P1B
variable {d : Nat} {T : aTab} {Q : Option aV → aH → Prop} {pc : Nat} {al : aL} {st : List aV} {h : aH} {kc ks n i : Nat}
theorem rcv_of {a ci : Nat} {fs vs : List aV} (ha : h[a]? = some (.inl (ci, fs))) : aRcv (ci + 1) h (.inr (.inr (some a)) :: vs) = true := by
  unfold aRcv
  dsimp only
  rw [ha]
  simp
theorem ur_eqB {q : Bool} {t : Nat} (ho : aAt T pc = some (.inl (oIf1 t n (fun x => decide (x = 0))))) (kt : q = false → uRun T (uCall Mt d) Q t (al, st, h, kc, ks)) (kf : q = true → uRun T (uCall Mt d) Q n (al, st, h, kc, ks)) : uRun T (uCall Mt d) Q pc (al, .inl (bi q) :: st, h, kc, ks) := by
  cases q with
  | false => exact ur_if1t ho rfl (kt rfl)
  | true => exact ur_if1f ho rfl (kf rfl)
theorem ur_neB {q : Bool} {t : Nat} (ho : aAt T pc = some (.inl (oIf1 t n (fun x => decide (x ≠ 0))))) (kt : q = true → uRun T (uCall Mt d) Q t (al, st, h, kc, ks)) (kf : q = false → uRun T (uCall Mt d) Q n (al, st, h, kc, ks)) : uRun T (uCall Mt d) Q pc (al, .inl (bi q) :: st, h, kc, ks) := by
  cases q with
  | false => exact ur_if1f ho rfl (kf rfl)
  | true => exact ur_if1t ho rfl (kt rfl)
theorem ur_bink {x y z : Int32} {q : Int32 → Int32 → Int32} (ho : aAt T pc = some (.inl (oBin n q))) (hz : q x y = z) (k : uRun T (uCall Mt d) Q n (al, .inl z :: st, h, kc, ks)) : uRun T (uCall Mt d) Q pc (al, .inl y :: .inl x :: st, h, kc, ks) := ur_bin ho (by rw [hz]; exact k)
theorem sp_within (d : Nat) (x lo hi : Int32) (h : aH) : uCall Mt (d + 1) 173 [.inl x, .inl lo, .inl hi] h 0 0 (fun r h' => r = some (.inl (bi (wi x lo hi))) ∧ h' = h) := by
  refine uc_in mt_173 (Nat.le_of_ble_eq_true rfl) ?_
  refine ur_ldI (x := x) rfl rfl ?_
  refine ur_ldI (x := lo) rfl rfl ?_
  refine ur_if2 rfl (fun c1 => ?_) (fun c1 => ?_)
  · refine ur_push rfl ?_
    refine ur_ret rfl rfl ?_
    rw [wi_lt c1]
    exact ⟨rfl, rfl⟩
  · refine ur_ldI rfl rfl ?_
    refine ur_ldI rfl rfl ?_
    refine ur_if2 rfl (fun c2 => ?_) (fun c2 => ?_)
    · refine ur_push rfl ?_
      refine ur_ret rfl rfl ?_
      rw [wi_gt c1 c2]
      exact ⟨rfl, rfl⟩
    · refine ur_push rfl ?_
      refine ur_go rfl ?_
      refine ur_ret rfl rfl ?_
      rw [wi_in c1 c2]
      exact ⟨rfl, rfl⟩
theorem sp_in (d : Nat) (x lo hi : Int32) (h : aH) : uCall Mt (d + 1) 184 [.inl x, .inl lo, .inl hi] h 0 0 (fun r h' => r = some (.inl (bi (wi x lo hi))) ∧ h' = h) := by
  refine uc_in mt_184 (Nat.le_of_ble_eq_true rfl) ?_
  refine ur_ldI (x := x) rfl rfl ?_
  refine ur_ldI (x := lo) rfl rfl ?_
  refine ur_if2 rfl (fun c1 => ?_) (fun c1 => ?_)
  · refine ur_push rfl ?_
    refine ur_ret rfl rfl ?_
    rw [wi_lt c1]
    exact ⟨rfl, rfl⟩
  · refine ur_ldI rfl rfl ?_
    refine ur_ldI rfl rfl ?_
    refine ur_if2 rfl (fun c2 => ?_) (fun c2 => ?_)
    · refine ur_push rfl ?_
      refine ur_ret rfl rfl ?_
      rw [wi_gt c1 c2]
      exact ⟨rfl, rfl⟩
    · refine ur_push rfl ?_
      refine ur_go rfl ?_
      refine ur_ret rfl rfl ?_
      rw [wi_in c1 c2]
      exact ⟨rfl, rfl⟩
end P1B
section P1N
variable {d : Nat} {T : aTab} {Q : Option aV → aH → Prop} {pc : Nat} {al al' : aL} {st : List aV} {h : aH} {kc ks n i : Nat}
theorem uc_ink {mi : Nat} {M : aMd} {vs : List aV} {h : aH} {mc ms : Nat} (al' : aL) (hM : Mt[mi]? = some M) (hl : (aEn vs).length ≤ M.2.2.1) (hal : aEnt vs M.2.2.1 = al') (k : uRun M.2.2.2.2 (uCall Mt d) Q 0 (al', [], h, mc, ms)) : uCall Mt (d + 1) mi vs h mc ms Q := uc_in hM hl (by rw [hal]; exact k)
theorem ur_svIk {x : Int32} (al' : aL) (ho : aAt T pc = some (.inl (oStI n i))) (hal : aSt1 al i (.inl x) = al') (k : uRun T (uCall Mt d) Q n (al', st, h, kc, ks)) : uRun T (uCall Mt d) Q pc (al, .inl x :: st, h, kc, ks) := ur_svI ho (by rw [hal]; exact k)
theorem ur_svAk {x : Option Nat} (al' : aL) (ho : aAt T pc = some (.inl (oStA n i))) (hal : aSt1 al i (.inr (.inr x)) = al') (k : uRun T (uCall Mt d) Q n (al', st, h, kc, ks)) : uRun T (uCall Mt d) Q pc (al, .inr (.inr x) :: st, h, kc, ks) := ur_svA ho (by rw [hal]; exact k)
theorem ur_svJk {x : Int64} (al' : aL) (ho : aAt T pc = some (.inl (oStJ n i))) (hal : aSt2 al i (.inr (.inl x)) = al') (k : uRun T (uCall Mt d) Q n (al', st, h, kc, ks)) : uRun T (uCall Mt d) Q pc (al, .inr (.inl x) :: st, h, kc, ks) := ur_svJ ho (by rw [hal]; exact k)
theorem ur_incl {x dd z : Int32} (al' : aL) (ho : aAt T pc = some (.inl (oInc n i dd))) (hi : al[i]? = some (some (.inl x))) (hz : x + dd = z) (hal : aSt1 al i (.inl z) = al') (k : uRun T (uCall Mt d) Q n (al', st, h, kc, ks)) : uRun T (uCall Mt d) Q pc (al, st, h, kc, ks) := ur_inc ho hi (by rw [hz, hal]; exact k)
theorem wi_to {x lo hi : Int32} (c : wi x lo hi = true) : lo.toInt ≤ x.toInt ∧ x.toInt ≤ hi.toInt := by
  unfold wi at c
  simp only [Bool.and_eq_true, decide_eq_true_eq] at c
  exact ⟨Int32.le_iff_toInt_le.mp c.1, Int32.le_iff_toInt_le.mp c.2⟩
theorem wi_no {x lo hi : Int32} (c : wi x lo hi = false) : x.toInt < lo.toInt ∨ hi.toInt < x.toInt := by
  cases h1 : decide (lo ≤ x) with
  | false => exact Or.inl (Int32.lt_iff_toInt_lt.mp (Int32.not_le.mp (of_decide_eq_false h1)))
  | true =>
    unfold wi at c
    rw [h1] at c
    have h2 : decide (x ≤ hi) = false := c
    exact Or.inr (Int32.lt_iff_toInt_lt.mp (Int32.not_le.mp (of_decide_eq_false h2)))
theorem lt_to {x y : Int32} (c : decide (x < y) = true) : x.toInt < y.toInt := Int32.lt_iff_toInt_lt.mp (of_decide_eq_true c)
theorem lt_no {x y : Int32} (c : decide (x < y) = false) : y.toInt ≤ x.toInt := Int32.le_iff_toInt_le.mp (Int32.not_lt.mp (of_decide_eq_false c))
theorem eq_to {x y : Int32} (c : decide (x = y) = true) : x.toInt = y.toInt := by rw [of_decide_eq_true c]
theorem eq_no {x y : Int32} (c : decide (x = y) = false) : x.toInt ≠ y.toInt := fun q => of_decide_eq_false c (Int32.toInt_inj.mp q)
theorem en_of {x y : Int32} {v : Int} (h : x.toInt = v) (hv : y.toInt = v) : x = y := Int32.toInt_inj.mp (h.trans hv.symm)
end P1N
