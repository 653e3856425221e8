section P1B
variable {d : Nat} {T : aTab} {Q : Option aV → aH → Prop} {pc : Nat} {al : aL} {st : List aV} {h : aH} {kc ks n i : Nat}
theorem ar_inl {mi q ck mc ms : Nat} (ho : aAt T pc = some (.inr (.inl (mi, q, ck)))) (hck : aRcv ck h (st.take q).reverse = true) (hq : q ≤ st.length) (hr : (st.drop q).length ≤ 4) (hmc : mc ≤ kc) (hms : ms ≤ ks) (hc : aCall Mt d mi (st.take q).reverse h mc ms (fun v h' => aRun T (aCall Mt d) Q (pc + 3) (al, v.toList ++ st.drop q, h', kc - mc, ks - ms))) : aRun T (aCall Mt d) Q pc (al, st, h, kc, ks) := ar_in ho ⟨mc, ms, hck, hq, hr, hmc, hms, hc⟩
theorem rcv_of {a ci : Nat} {fs vs : List aV} (ha : h[a]? = some (.inl (ci, fs))) : aRcv (ci + 1) h (.inr (.inr (some a)) :: vs) = true := by
  unfold aRcv
  dsimp only
  rw [ha]
  simp
theorem ar_eqB {q : Bool} {t : Nat} (ho : aAt T pc = some (.inl (oIf1 t n (fun x => decide (x = 0))))) (kt : q = false → aRun T (aCall Mt d) Q t (al, st, h, kc, ks)) (kf : q = true → aRun T (aCall Mt d) Q n (al, st, h, kc, ks)) : aRun T (aCall Mt d) Q pc (al, .inl (bi q) :: st, h, kc, ks) := by
  cases q with
  | false => exact ar_if1t ho rfl (kt rfl)
  | true => exact ar_if1f ho rfl (kf rfl)
theorem ar_neB {q : Bool} {t : Nat} (ho : aAt T pc = some (.inl (oIf1 t n (fun x => decide (x ≠ 0))))) (kt : q = true → aRun T (aCall Mt d) Q t (al, st, h, kc, ks)) (kf : q = false → aRun T (aCall Mt d) Q n (al, st, h, kc, ks)) : aRun T (aCall Mt d) Q pc (al, .inl (bi q) :: st, h, kc, ks) := by
  cases q with
  | false => exact ar_if1f ho rfl (kf rfl)
  | true => exact ar_if1t ho rfl (kt rfl)
theorem ar_bink {x y z : Int32} {q : Int32 → Int32 → Int32} (ho : aAt T pc = some (.inl (oBin n q))) (hz : q x y = z) (k : aRun T (aCall Mt d) Q n (al, .inl z :: st, h, kc, ks)) : aRun T (aCall Mt d) Q pc (al, .inl y :: .inl x :: st, h, kc, ks) := ar_bin ho (by rw [hz]; exact k)
theorem ar_unk {x z : Int32} {q : Int32 → Int32} (ho : aAt T pc = some (.inl (oUn n q))) (hz : q x = z) (k : aRun T (aCall Mt d) Q n (al, .inl z :: st, h, kc, ks)) : aRun T (aCall Mt d) Q pc (al, .inl x :: st, h, kc, ks) := ar_un ho (by rw [hz]; exact k)
theorem ar_inck {x dd z : Int32} (ho : aAt T pc = some (.inl (oInc n i dd))) (hi : al[i]? = some (some (.inl x))) (hz : x + dd = z) (k : aRun T (aCall Mt d) Q n (aSt1 al i (.inl z), st, h, kc, ks)) : aRun T (aCall Mt d) Q pc (al, st, h, kc, ks) := ar_inc ho hi (by rw [hz]; exact k)
theorem rFr.sets {h : aH} (hr : rFr h) {k : Nat} {c : aC} (hk : k < 69 ∨ 114 ≤ k) : rFr (h.set k c) := fun j h1 h2 => by rw [List.getElem?_set_ne (by omega)]; exact hr j h1 h2
theorem ar_divk {x y z : Int32} {q : Int32 → Int32 → Int32} (ho : aAt T pc = some (.inl (oDiv n q))) (hy : ¬ y = 0) (hz : q x y = z) (k : aRun T (aCall Mt d) Q n (al, .inl z :: st, h, kc, ks)) : aRun T (aCall Mt d) Q pc (al, .inl y :: .inl x :: st, h, kc, ks) := ar_div ho hy (by rw [hz]; exact k)
theorem rgen {mi : Nat} {vs : List aV} {mc ms : Nat} (hr : rFr h) (k : ∀ g, rFr g → aCall Mt d mi vs g mc ms Q) : aCall Mt d mi vs h mc ms Q := k h hr
theorem sp_within (d : Nat) (x lo hi : Int32) (h : aH) : aCall Mt (d + 1) 173 [.inl x, .inl lo, .inl hi] h 0 0 (fun r h' => r = some (.inl (bi (wi x lo hi))) ∧ h' = h) := by
  refine ac_in mt_173 (Nat.le_of_ble_eq_true rfl) ?_
  refine ar_ldI (x := x) rfl rfl ?_
  refine ar_ldI (x := lo) rfl rfl ?_
  refine ar_if2 rfl (fun c1 => ?_) (fun c1 => ?_)
  · refine ar_push rfl ?_
    refine ar_ret rfl rfl ?_
    rw [wi_lt c1]
    exact ⟨rfl, rfl⟩
  · refine ar_ldI rfl rfl ?_
    refine ar_ldI rfl rfl ?_
    refine ar_if2 rfl (fun c2 => ?_) (fun c2 => ?_)
    · refine ar_push rfl ?_
      refine ar_ret rfl rfl ?_
      rw [wi_gt c1 c2]
      exact ⟨rfl, rfl⟩
    · refine ar_push rfl ?_
      refine ar_go rfl ?_
      refine ar_ret rfl rfl ?_
      rw [wi_in c1 c2]
      exact ⟨rfl, rfl⟩
theorem sp_in (d : Nat) (x lo hi : Int32) (h : aH) : aCall Mt (d + 1) 184 [.inl x, .inl lo, .inl hi] h 0 0 (fun r h' => r = some (.inl (bi (wi x lo hi))) ∧ h' = h) := by
  refine ac_in mt_184 (Nat.le_of_ble_eq_true rfl) ?_
  refine ar_ldI (x := x) rfl rfl ?_
  refine ar_ldI (x := lo) rfl rfl ?_
  refine ar_if2 rfl (fun c1 => ?_) (fun c1 => ?_)
  · refine ar_push rfl ?_
    refine ar_ret rfl rfl ?_
    rw [wi_lt c1]
    exact ⟨rfl, rfl⟩
  · refine ar_ldI rfl rfl ?_
    refine ar_ldI rfl rfl ?_
    refine ar_if2 rfl (fun c2 => ?_) (fun c2 => ?_)
    · refine ar_push rfl ?_
      refine ar_ret rfl rfl ?_
      rw [wi_gt c1 c2]
      exact ⟨rfl, rfl⟩
    · refine ar_push rfl ?_
      refine ar_go rfl ?_
      refine ar_ret rfl rfl ?_
      rw [wi_in c1 c2]
      exact ⟨rfl, rfl⟩
theorem wi_ix {j hi : Int32} {m : Nat} (c : wi j 0 hi = true) (hm : hi.toInt < (m : Int)) : ¬ j < 0 ∧ j.toNatClampNeg < m := by
  unfold wi at c
  simp only [Bool.and_eq_true, decide_eq_true_eq] at c
  obtain ⟨h1, h2⟩ := c
  have h3 : (0 : Int) ≤ j.toInt := Int32.le_iff_toInt_le.mp h1
  have h4 : j.toInt ≤ hi.toInt := Int32.le_iff_toInt_le.mp h2
  refine ⟨fun q => ?_, ?_⟩
  · have : j.toInt < 0 := Int32.lt_iff_toInt_lt.mp q
    omega
  · have : vp_in j m := vp_in_iff.mpr ⟨h3, by omega⟩
    exact Nat.not_le.mp (fun q => this (Or.inr q))
theorem rep_get {α : Type} {k m : Nat} {a : α} (hk : k < m) : (List.replicate m a)[k]? = some a := by rw [List.getElem?_replicate, if_pos hk]
end P1B
section P1N
variable {d : Nat} {T : aTab} {Q : Option aV → aH → Prop} {pc : Nat} {al al' : aL} {st : List aV} {h : aH} {kc ks n i : Nat}
theorem ac_ink {mi : Nat} {M : aMd} {vs : List aV} {h : aH} {mc ms : Nat} (al' : aL) (hM : Mt[mi]? = some M) (hl : (aEn vs).length ≤ M.2.2.1) (hal : aEnt vs M.2.2.1 = al') (k : aRun M.2.2.2.2 (aCall Mt d) Q 0 (al', [], h, mc, ms)) : aCall Mt (d + 1) mi vs h mc ms Q := ac_in hM hl (by rw [hal]; exact k)
theorem ar_svIk {x : Int32} (al' : aL) (ho : aAt T pc = some (.inl (oStI n i))) (hal : aSt1 al i (.inl x) = al') (k : aRun T (aCall Mt d) Q n (al', st, h, kc, ks)) : aRun T (aCall Mt d) Q pc (al, .inl x :: st, h, kc, ks) := ar_svI ho (by rw [hal]; exact k)
theorem ar_svAk {x : Option Nat} (al' : aL) (ho : aAt T pc = some (.inl (oStA n i))) (hal : aSt1 al i (.inr (.inr x)) = al') (k : aRun T (aCall Mt d) Q n (al', st, h, kc, ks)) : aRun T (aCall Mt d) Q pc (al, .inr (.inr x) :: st, h, kc, ks) := ar_svA ho (by rw [hal]; exact k)
theorem ar_svJk {x : Int64} (al' : aL) (ho : aAt T pc = some (.inl (oStJ n i))) (hal : aSt2 al i (.inr (.inl x)) = al') (k : aRun T (aCall Mt d) Q n (al', st, h, kc, ks)) : aRun T (aCall Mt d) Q pc (al, .inr (.inl x) :: st, h, kc, ks) := ar_svJ ho (by rw [hal]; exact k)
theorem ar_incl {x dd z : Int32} (al' : aL) (ho : aAt T pc = some (.inl (oInc n i dd))) (hi : al[i]? = some (some (.inl x))) (hz : x + dd = z) (hal : aSt1 al i (.inl z) = al') (k : aRun T (aCall Mt d) Q n (al', st, h, kc, ks)) : aRun T (aCall Mt d) Q pc (al, st, h, kc, ks) := ar_inc ho hi (by rw [hz, hal]; exact k)
theorem ar_binJk {x y z : Int64} {q : Int64 → Int64 → Int64} (ho : aAt T pc = some (.inl (oBinJ n q))) (hz : q x y = z) (k : aRun T (aCall Mt d) Q n (al, .inr (.inl z) :: st, h, kc, ks)) : aRun T (aCall Mt d) Q pc (al, .inr (.inl y) :: .inr (.inl x) :: st, h, kc, ks) := ar_binJ ho (by rw [hz]; exact k)
theorem ar_shJk {x z : Int64} {y : Int32} {q : Int64 → Int32 → Int64} (ho : aAt T pc = some (.inl (oShJ n q))) (hz : q x y = z) (k : aRun T (aCall Mt d) Q n (al, .inr (.inl z) :: st, h, kc, ks)) : aRun T (aCall Mt d) Q pc (al, .inl y :: .inr (.inl x) :: st, h, kc, ks) := ar_shJ ho (by rw [hz]; exact k)
theorem ar_l2ik {x : Int64} {z : Int32} (ho : aAt T pc = some (.inl (oL2I n))) (hz : x.toInt32 = z) (k : aRun T (aCall Mt d) Q n (al, .inl z :: st, h, kc, ks)) : aRun T (aCall Mt d) Q pc (al, .inr (.inl x) :: st, h, kc, ks) := ar_l2i ho (by rw [hz]; exact k)
theorem wi_to {x lo hi : Int32} (c : wi x lo hi = true) : lo.toInt ≤ x.toInt ∧ x.toInt ≤ hi.toInt := by
  unfold wi at c
  simp only [Bool.and_eq_true, decide_eq_true_eq] at c
  exact ⟨Int32.le_iff_toInt_le.mp c.1, Int32.le_iff_toInt_le.mp c.2⟩
theorem wi_no {x lo hi : Int32} (c : wi x lo hi = false) : x.toInt < lo.toInt ∨ hi.toInt < x.toInt := by
  cases h1 : decide (lo ≤ x) with
  | false => exact Or.inl (Int32.lt_iff_toInt_lt.mp (Int32.not_le.mp (of_decide_eq_false h1)))
  | true =>
    unfold wi at c
    rw [h1] at c
    have h2 : decide (x ≤ hi) = false := c
    exact Or.inr (Int32.lt_iff_toInt_lt.mp (Int32.not_le.mp (of_decide_eq_false h2)))
theorem lt_to {x y : Int32} (c : decide (x < y) = true) : x.toInt < y.toInt := Int32.lt_iff_toInt_lt.mp (of_decide_eq_true c)
theorem lt_no {x y : Int32} (c : decide (x < y) = false) : y.toInt ≤ x.toInt := Int32.le_iff_toInt_le.mp (Int32.not_lt.mp (of_decide_eq_false c))
theorem eq_to {x y : Int32} (c : decide (x = y) = true) : x.toInt = y.toInt := by rw [of_decide_eq_true c]
theorem eq_no {x y : Int32} (c : decide (x = y) = false) : x.toInt ≠ y.toInt := fun q => of_decide_eq_false c (Int32.toInt_inj.mp q)
theorem en_of {x y : Int32} {v : Int} (h : x.toInt = v) (hv : y.toInt = v) : x = y := Int32.toInt_inj.mp (h.trans hv.symm)
end P1N
