/-! TEXT with what it does to words; spans; printed by program but for its head -/
section T9S
theorem CTt.g {t : Int → Int} {h : aH} {a : Nat} {x : Int} (g : CTt t h a x) (e : x = -1) : ∃ ls, Txd t ls ∧ txC h a = cfl 0 ls := by
  rcases g with ⟨-, r⟩ | ⟨r, -⟩
  · exact r
  · omega
theorem tqN_10 {u : Int} (h : 10 ≤ u) : tqN u = 23 + 2 * (u - 10).toNat := by
  unfold tqN
  rw [if_neg (by omega)]
  omega
theorem TXF.up {h h' : aH} {L : Nat → List (List (Int × Int) × List (Int × Int))} {ls : List (List (Int × Int) × List (Int × Int))} {a p : Nat} (H : TXF h L) (k : ∀ q ∈ TXQ, q ≠ a → txC h' q = txC h q) (ea : a = 23 + 2 * p) (e : txC h' a = cfl 0 ls) (g : ∀ l ∈ ls, lnG l) : TXF h' (fun n => if n = p then ls else L n) := fun n hn => by
  by_cases q : n = p
  · subst q
    show txC h' (23 + 2 * n) = cfl 0 (if n = n then ls else L n) ∧ ∀ l ∈ (if n = n then ls else L n), lnG l
    rw [if_pos rfl, ← ea]
    exact ⟨e, g⟩
  · show txC h' (23 + 2 * n) = cfl 0 (if n = p then ls else L n) ∧ ∀ l ∈ (if n = p then ls else L n), lnG l
    rw [if_neg q]
    exact ⟨(k _ (txm_q hn) (by omega)).trans (H n hn).1, (H n hn).2⟩
theorem SWq.l {h0 h : aH} {L : Nat → List (List (Int × Int) × List (Int × Int))} {ls : List (List (Int × Int) × List (Int × Int))} {q q' : Int} {p : Nat} {i i' : Int} (H : SWq h0 h (fun n => if n = p then ls else L n) (fun z => fO h0 z 2 = q) i) (eq : q' = q) (ep : q.toNat = p) (ei : i' ≤ i) : SWq h0 h (fun _ => ls) (fun z => fO h0 z 2 = q') i' := by
  subst eq ep
  refine ⟨fun j z a b w e k => ?_, H.2⟩
  have e : fO h0 z 2 = q' := e
  have s := H.1 j z a (by omega) w e k
  rw [e] at s
  have s : SPz h z (if q'.toNat = q'.toNat then ls else L q'.toNat) := s
  rw [if_pos rfl] at s
  exact s
def spF (V sl : Int) : Int := if V - sl < 0 then 0 else V - sl
def spT (V sl : Int) : Int := if 999999 < V + sl then 999999 else V + sl
theorem spF_nn {V sl : Int} : 0 ≤ spF V sl := by
  unfold spF
  split <;> omega
def VC (h : aH) (z : Nat) : Int → Int := fun i => if i = 0 then fO h z 11 else fO h z 12
def MVq (h : aH) (z : Nat) : Prop := (0 ≤ fO h z 4 ∧ fO h z 4 ≤ 400) ∧ (-2000000 ≤ fO h z 11 ∧ fO h z 11 ≤ 2000000) ∧ (fO h z 10 = 1 ∨ fO h z 10 = 2 ∧ -2000000 ≤ fO h z 12 ∧ fO h z 12 ≤ 2000000)
def RTW (h : aH) : Prop := ∀ (i : Int) z r, 0 ≤ i → i < fO h 15 1 → wz h i z → rtz h z r → MVq h r
def SPA (n : Int) (V : Int → Int) (sl i w x : Int) : Prop := ((0 ≤ i ∧ i ≤ n - 1) ∧ (0 ≤ w ∧ w ≤ 1) ∧ spF (V i) sl ≤ spT (V i) sl → x = if w = 0 then spF (V i) sl else spT (V i) sl) ∧ (¬ ((0 ≤ i ∧ i ≤ n - 1) ∧ (0 ≤ w ∧ w ≤ 1) ∧ spF (V i) sl ≤ spT (V i) sl) → x = -2000000000)
theorem SPA.n {n : Int} {V : Int → Int} {sl i w x : Int} (a : ¬ ((0 ≤ i ∧ i ≤ n - 1) ∧ (0 ≤ w ∧ w ≤ 1))) (e : x = -2000000000) : SPA n V sl i w x := ⟨fun q => absurd ⟨q.1, q.2.1⟩ a, fun _ => e⟩
theorem SPA.e {n : Int} {V : Int → Int} {sl i w x f t : Int} (hf : f = spF (V i) sl) (ht : t = spT (V i) sl) (a : t < f) (e : x = -2000000000) : SPA n V sl i w x := ⟨fun q => absurd q.2.2 (by omega), fun _ => e⟩
theorem SPA.y {n : Int} {V : Int → Int} {sl i w x f t : Int} (hf : f = spF (V i) sl) (ht : t = spT (V i) sl) (a : f ≤ t) (b : 0 ≤ i ∧ i ≤ n - 1) (c : 0 ≤ w ∧ w ≤ 1) (e : w = 0 ∧ x = f ∨ w = 1 ∧ x = t) : SPA n V sl i w x := by
  refine ⟨fun _ => ?_, fun q => absurd ⟨b, c, by omega⟩ q⟩
  rcases e with ⟨e1, e2⟩ | ⟨e1, e2⟩
  · rw [if_pos e1, e2, hf]
  · rw [if_neg (by omega), e2, ht]
theorem SPA.eq {n n' : Int} {V V' : Int → Int} {sl sl' i w x x' : Int} (a : SPA n V sl i w x) (b : SPA n' V' sl' i w x') (en : n' = n) (es : sl' = sl) (eV : 0 ≤ i → i ≤ n - 1 → V' i = V i) : x = x' := by
  subst en es
  by_cases q : 0 ≤ i ∧ i ≤ n' - 1
  · have eV := eV q.1 q.2
    unfold SPA at b
    rw [eV] at b
    by_cases p : (0 ≤ i ∧ i ≤ n' - 1) ∧ (0 ≤ w ∧ w ≤ 1) ∧ spF (V i) sl' ≤ spT (V i) sl'
    · rw [a.1 p, b.1 p]
    · rw [a.2 p, b.2 p]
  · rw [a.2 (fun p => q p.1), b.2 (fun p => q p.1)]
/-- a day on which span i of one and span j of the other begin to be there together -/
def cmn (V : Int → Int) (sl : Int) (V' : Int → Int) (sl' : Int) (i j e : Int) : Prop := (spF (V i) sl ≤ e ∧ spF (V' j) sl' ≤ e ∧ (e = spF (V i) sl ∨ e = spF (V' j) sl')) ∧ e ≤ spT (V i) sl ∧ e ≤ spT (V' j) sl'
def EVq (n' I J i j : Int) : Prop := (0 ≤ i ∧ i < I ∧ 0 ≤ j ∧ j < n') ∨ (i = I ∧ 0 ≤ j ∧ j < J)
def EVS (n' I J : Int) (C : Int → Int → Int → Prop) (x : Int) : Prop := (x < 0 ∧ ∀ i j e, EVq n' I J i j → ¬ C i j e) ∨ (0 ≤ x ∧ (∃ i j, EVq n' I J i j ∧ C i j x) ∧ ∀ i j e, EVq n' I J i j → C i j e → x ≤ e)
theorem EVS.qc {n' I J I' J' : Int} {C : Int → Int → Int → Prop} {x : Int} (H : EVS n' I J C x) (e : ∀ i j, EVq n' I' J' i j ↔ EVq n' I J i j) : EVS n' I' J' C x := by
  rcases H with ⟨a, b⟩ | ⟨a, ⟨i, j, q, c⟩, b⟩
  · exact Or.inl ⟨a, fun i j d q => b i j d ((e i j).mp q)⟩
  · exact Or.inr ⟨a, ⟨i, j, (e i j).mpr q, c⟩, fun i j d q => b i j d ((e i j).mp q)⟩
theorem EVS.cg {n' I J I' J' : Int} {C : Int → Int → Int → Prop} {x : Int} (H : EVS n' I J C x) (eI : I' = I) (eJ : J' = J) : EVS n' I' J' C x := by
  subst eI eJ
  exact H
theorem EVS.xc {n' I J : Int} {C : Int → Int → Int → Prop} {x x' : Int} (H : EVS n' I J C x) (e : x' = x ∨ x < 0 ∧ x' < 0) : EVS n' I J C x' := by
  rcases e with rfl | ⟨p, q⟩
  · exact H
  · rcases H with ⟨a, b⟩ | ⟨a, b⟩
    · exact Or.inl ⟨q, b⟩
    · omega
theorem EVS.z {n' I J : Int} {C : Int → Int → Int → Prop} {x : Int} (eI : I = 0) (eJ : J = 0) (ex : x < 0) : EVS n' I J C x := Or.inl ⟨ex, fun i j e q => by unfold EVq at q; omega⟩
theorem EVS.nx {n' I J I' J' : Int} {C : Int → Int → Int → Prop} {x : Int} (H : EVS n' I J C x) (eJ : J = n') (eI : I' = I + 1) (eJ' : J' = 0) (hI : 0 ≤ I := by omega) : EVS n' I' J' C x := H.qc (fun i j => by unfold EVq; omega)
theorem EVS.st {n' I J J' : Int} {V V' : Int → Int} {sl sl' x x' f1 f2 t1 t2 : Int} (H : EVS n' I J (cmn V sl V' sl') x) (e1 : f1 = spF (V I) sl) (e2 : f2 = spF (V' J) sl') (e3 : t1 = spT (V I) sl) (e4 : t2 = spT (V' J) sl')
    (hx : (x' = x ∧ (t1 < f1 ∨ t2 < f1 ∨ t1 < f2 ∨ t2 < f2 ∨ (0 ≤ x ∧ (x ≤ f1 ∨ x ≤ f2)))) ∨ ((x' = f1 ∨ x' = f2) ∧ f1 ≤ x' ∧ f2 ≤ x' ∧ x' ≤ t1 ∧ x' ≤ t2 ∧ (x < 0 ∨ x' ≤ x))) (eJ : J' = J + 1) (hJ : 0 ≤ J := by omega) : EVS n' I J' (cmn V sl V' sl') x' := by
  have n1 : 0 ≤ spF (V I) sl := spF_nn
  have q2 : ∀ i j, EVq n' I J' i j → EVq n' I J i j ∨ (i = I ∧ j = J) := fun i j q => by unfold EVq at q ⊢; omega
  have q1 : ∀ i j, EVq n' I J i j → EVq n' I J' i j := fun i j q => by unfold EVq at q ⊢; omega
  have qJ : EVq n' I J' I J := by unfold EVq; omega
  rcases hx with ⟨rfl, hx⟩ | ⟨d, g1, g2, g3, g4, g5⟩
  · rcases H with ⟨a, b⟩ | ⟨a, ⟨i, j, q, c⟩, b⟩
    · refine Or.inl ⟨a, fun i j e q c => ?_⟩
      rcases q2 i j q with p | ⟨rfl, rfl⟩
      · exact b i j e p c
      · unfold cmn at c
        omega
    · refine Or.inr ⟨a, ⟨i, j, q1 i j q, c⟩, fun i j e q c => ?_⟩
      rcases q2 i j q with p | ⟨rfl, rfl⟩
      · exact b i j e p c
      · unfold cmn at c
        omega
  · refine Or.inr ⟨by omega, ⟨I, J, qJ, ?_⟩, fun i j e q c => ?_⟩
    · unfold cmn
      omega
    · rcases q2 i j q with p | ⟨rfl, rfl⟩
      · rcases H with ⟨a, b⟩ | ⟨a, -, b⟩
        · exact absurd c (b i j e p)
        · have := b i j e p c
          omega
      · unfold cmn at c
        omega
theorem EVS.row {n' I I' J' : Int} {V V' : Int → Int} {sl sl' x f1 t1 : Int} (H : EVS n' I 0 (cmn V sl V' sl') x) (e1 : f1 = spF (V I) sl) (e3 : t1 = spT (V I) sl) (a : t1 < f1) (eI : I' = I + 1) (eJ : J' = 0) (hI : 0 ≤ I := by omega) : EVS n' I' J' (cmn V sl V' sl') x := by
  have q2 : ∀ i j, EVq n' I' J' i j → EVq n' I 0 i j ∨ i = I := fun i j q => by unfold EVq at q ⊢; omega
  have q1 : ∀ i j, EVq n' I 0 i j → EVq n' I' J' i j := fun i j q => by unfold EVq at q ⊢; omega
  rcases H with ⟨p, b⟩ | ⟨p, ⟨i, j, q, c⟩, b⟩
  · refine Or.inl ⟨p, fun i j e q c => ?_⟩
    rcases q2 i j q with p | rfl
    · exact b i j e p c
    · unfold cmn at c
      omega
  · refine Or.inr ⟨p, ⟨i, j, q1 i j q, c⟩, fun i j e q c => ?_⟩
    rcases q2 i j q with p | rfl
    · exact b i j e p c
    · unfold cmn at c
      omega
theorem EVS.eq {n n' I I' : Int} {C C' : Int → Int → Int → Prop} {x x' : Int} (a : EVS n I 0 C x) (b : EVS n' I' 0 C' x') (en : n' = n) (eI : I' = I) (eC : ∀ i j e, 0 ≤ i → i < I → 0 ≤ j → j < n → (C' i j e ↔ C i j e)) : x = x' ∨ x < 0 ∧ x' < 0 := by
  subst en eI
  have k : ∀ i j e, EVq n' I' 0 i j → (C' i j e ↔ C i j e) := fun i j e q => by
    unfold EVq at q
    exact eC i j e (by omega) (by omega) (by omega) (by omega)
  rcases a with ⟨a, f⟩ | ⟨a, ⟨i, j, q, c⟩, f⟩
  · rcases b with ⟨b, -⟩ | ⟨b, ⟨i', j', q', c'⟩, f'⟩
    · exact Or.inr ⟨a, b⟩
    · exact absurd ((k _ _ _ q').mp c') (f _ _ _ q')
  · rcases b with ⟨b, f'⟩ | ⟨b, ⟨i', j', q', c'⟩, f'⟩
    · exact absurd ((k _ _ _ q).mpr c) (f' _ _ _ q)
    · have u := f _ _ _ q' ((k _ _ _ q').mp c')
      have v := f' _ _ _ q ((k _ _ _ q).mpr c)
      exact Or.inl (by omega)
set_option maxRecDepth 20000 in
set_option maxHeartbeats 4000000 in
theorem st_X10_movedFrom {d kc ks : Nat} {h0 : aH} {Q : Option aV → aH → Prop} (hO0 : OK h0) {a0 : Nat} (g0 : 114 ≤ a0) (t0 : tg h0 a0 = (110, 13)) (a1 : Int32) (a2 : Int32) (b2 : -400 ≤ a2.toInt ∧ a2.toInt ≤ 400) (pre0 : (0 ≤ fO h0 a0 4 ∧ fO h0 a0 4 ≤ 400) ∧ (a1.toInt = 0 → -2000000 ≤ fO h0 a0 11 ∧ fO h0 a0 11 ≤ 2000000) ∧ (a1.toInt ≠ 0 → -2000000 ≤ fO h0 a0 12 ∧ fO h0 a0 12 ≤ 2000000)) (hQ : ∀ r, (∃ x : Int32, r = some (.inl x) ∧ (x.toInt = (if (if a1.toInt = 0 then fO h0 a0 11 else fO h0 a0 12) - fO h0 a0 4 + a2.toInt < 0 then 0 else (if a1.toInt = 0 then fO h0 a0 11 else fO h0 a0 12) - fO h0 a0 4 + a2.toInt))) → Q r h0) : uCall Mt (d + 1) 121 [(.inr (.inr (some a0))), (.inl a1), (.inl a2)] h0 kc ks Q := by
  have l_0 : ((0) : Int32).toInt = 0 := by decide
  refine uc_ink [some (.inr (.inr (some a0))), some (.inl a1), some (.inl a2)] mt_121 (Nat.le_of_ble_eq_true rfl) rfl ?_
  obtain ⟨g18, f3, f4, f5, f6, f7, f8, f9, f10, f11, o15, f12, f13, f14, hc2, k16, k17⟩ := hO0.word t0
  have t1 := fO_of (k := 4) hc2 rfl
  have t19 := fO_of (k := 11) hc2 rfl
  have t20 := fO_of (k := 12) hc2 rfl
  refine ur_ldI rfl rfl ?_
  refine ur_if1 rfl (fun c21 => ?_) (fun c21 => ?_)
  · have t22 := ne_to c21
    refine ur_ldA rfl rfl ?_
    refine ur_get rfl hc2 rfl ?_
    refine ur_ldA rfl rfl ?_
    refine ur_get rfl hc2 rfl ?_
    refine ur_binV rfl (fun x23 e24 => ?_)
    have z25 := any_r f14
    have z26 := any_r f7
    have t27 := ti_sub e24 (by omega) (by omega)
    refine ur_ldI rfl rfl ?_
    refine ur_binV rfl (fun x28 e29 => ?_)
    have z30 := any_r x23
    have z31 := any_r a2
    have t32 := ti_add e29 (by omega) (by omega)
    refine ur_push rfl ?_
    refine ur_maxV rfl (by show ¬ 9 ≤ 2; decide) (fun x33 t34 e35 => ?_)
    exact ur_ret rfl rfl (hQ _ ⟨_, rfl, (by split <;> split <;> omega)⟩ )
  · have t36 := ne_no c21
    refine ur_ldA rfl rfl ?_
    refine ur_get rfl hc2 rfl ?_
    refine ur_go rfl ?_
    refine ur_ldA rfl rfl ?_
    refine ur_get rfl hc2 rfl ?_
    refine ur_binV rfl (fun x37 e38 => ?_)
    have z39 := any_r f13
    have z40 := any_r f7
    have t41 := ti_sub e38 (by omega) (by omega)
    refine ur_ldI rfl rfl ?_
    refine ur_binV rfl (fun x42 e43 => ?_)
    have z44 := any_r x37
    have z45 := any_r a2
    have t46 := ti_add e43 (by omega) (by omega)
    refine ur_push rfl ?_
    refine ur_maxV rfl (by show ¬ 9 ≤ 2; decide) (fun x47 t48 e49 => ?_)
    exact ur_ret rfl rfl (hQ _ ⟨_, rfl, (by split <;> split <;> omega)⟩ )

set_option maxRecDepth 20000 in
set_option maxHeartbeats 4000000 in
theorem st_X10_spanFrom {d kc ks : Nat} {h0 : aH} {Q : Option aV → aH → Prop} (hO0 : OK h0) {a0 : Nat} (g0 : 114 ≤ a0) (t0 : tg h0 a0 = (110, 13)) (a1 : Int32) (pre0 : (0 ≤ fO h0 a0 4 ∧ fO h0 a0 4 ≤ 400) ∧ (a1.toInt = 0 → -2000000 ≤ fO h0 a0 11 ∧ fO h0 a0 11 ≤ 2000000) ∧ (a1.toInt ≠ 0 → -2000000 ≤ fO h0 a0 12 ∧ fO h0 a0 12 ≤ 2000000)) (hQ : ∀ r, (∃ x : Int32, r = some (.inl x) ∧ (x.toInt = (if (if a1.toInt = 0 then fO h0 a0 11 else fO h0 a0 12) - fO h0 a0 4 < 0 then 0 else (if a1.toInt = 0 then fO h0 a0 11 else fO h0 a0 12) - fO h0 a0 4))) → Q r h0) : uCall Mt (d + 2) 119 [(.inr (.inr (some a0))), (.inl a1)] h0 kc ks Q := by
  have l_0 : ((0) : Int32).toInt = 0 := by decide
  refine uc_ink [some (.inr (.inr (some a0))), some (.inl a1)] mt_119 (Nat.le_of_ble_eq_true rfl) rfl ?_
  obtain ⟨g18, f3, f4, f5, f6, f7, f8, f9, f10, f11, o15, f12, f13, f14, hc2, k16, k17⟩ := hO0.word t0
  have t1 := fO_of (k := 4) hc2 rfl
  have t19 := fO_of (k := 11) hc2 rfl
  have t20 := fO_of (k := 12) hc2 rfl
  refine ur_ldA rfl rfl ?_
  refine ur_ldI rfl rfl ?_
  refine ur_push rfl ?_
  refine ur_inl rfl (rcv_of hc2) (Nat.le_of_ble_eq_true rfl) (Nat.le_of_ble_eq_true rfl) (st_X10_movedFrom hO0 g18 t0 _ _ (by show -400 ≤ (0 : Int32).toInt ∧ (0 : Int32).toInt ≤ 400; omega) (by omega) (fun w21 hr22 => ?_))
  obtain ⟨x23, rfl, f24⟩ := hr22
  show uRun _ (uCall Mt _) _ 6 (_, [(.inl x23)], _, _, _)
  exact ur_ret rfl rfl (hQ _ ⟨_, rfl, (by have w := f24; rw [l_0, Int.add_zero] at w; exact w)⟩ )

set_option maxRecDepth 20000 in
set_option maxHeartbeats 4000000 in
theorem st_X10_movedTo {d kc ks : Nat} {h0 : aH} {Q : Option aV → aH → Prop} (hO0 : OK h0) {a0 : Nat} (g0 : 114 ≤ a0) (t0 : tg h0 a0 = (110, 13)) (a1 : Int32) (a2 : Int32) (b2 : -400 ≤ a2.toInt ∧ a2.toInt ≤ 400) (pre0 : (0 ≤ fO h0 a0 4 ∧ fO h0 a0 4 ≤ 400) ∧ (a1.toInt = 0 → -2000000 ≤ fO h0 a0 11 ∧ fO h0 a0 11 ≤ 2000000) ∧ (a1.toInt ≠ 0 → -2000000 ≤ fO h0 a0 12 ∧ fO h0 a0 12 ≤ 2000000)) (hQ : ∀ r, (∃ x : Int32, r = some (.inl x) ∧ (x.toInt = (if 999999 < (if a1.toInt = 0 then fO h0 a0 11 else fO h0 a0 12) + fO h0 a0 4 + a2.toInt then 999999 else (if a1.toInt = 0 then fO h0 a0 11 else fO h0 a0 12) + fO h0 a0 4 + a2.toInt))) → Q r h0) : uCall Mt (d + 1) 122 [(.inr (.inr (some a0))), (.inl a1), (.inl a2)] h0 kc ks Q := by
  have l_0 : ((0) : Int32).toInt = 0 := by decide
  have l_999999 : ((999999) : Int32).toInt = 999999 := by decide
  refine uc_ink [some (.inr (.inr (some a0))), some (.inl a1), some (.inl a2)] mt_122 (Nat.le_of_ble_eq_true rfl) rfl ?_
  obtain ⟨g18, f3, f4, f5, f6, f7, f8, f9, f10, f11, o15, f12, f13, f14, hc2, k16, k17⟩ := hO0.word t0
  have t1 := fO_of (k := 4) hc2 rfl
  have t19 := fO_of (k := 11) hc2 rfl
  have t20 := fO_of (k := 12) hc2 rfl
  refine ur_ldI rfl rfl ?_
  refine ur_if1 rfl (fun c21 => ?_) (fun c21 => ?_)
  · have t22 := ne_to c21
    refine ur_ldA rfl rfl ?_
    refine ur_get rfl hc2 rfl ?_
    refine ur_ldA rfl rfl ?_
    refine ur_get rfl hc2 rfl ?_
    refine ur_binV rfl (fun x23 e24 => ?_)
    have z25 := any_r f14
    have z26 := any_r f7
    have t27 := ti_add e24 (by omega) (by omega)
    refine ur_ldI rfl rfl ?_
    refine ur_binV rfl (fun x28 e29 => ?_)
    have z30 := any_r x23
    have z31 := any_r a2
    have t32 := ti_add e29 (by omega) (by omega)
    refine ur_push rfl ?_
    refine ur_minV rfl (by show ¬ 9 ≤ 2; decide) (fun x33 t34 e35 => ?_)
    exact ur_ret rfl rfl (hQ _ ⟨_, rfl, (by split <;> split <;> omega)⟩ )
  · have t36 := ne_no c21
    refine ur_ldA rfl rfl ?_
    refine ur_get rfl hc2 rfl ?_
    refine ur_go rfl ?_
    refine ur_ldA rfl rfl ?_
    refine ur_get rfl hc2 rfl ?_
    refine ur_binV rfl (fun x37 e38 => ?_)
    have z39 := any_r f13
    have z40 := any_r f7
    have t41 := ti_add e38 (by omega) (by omega)
    refine ur_ldI rfl rfl ?_
    refine ur_binV rfl (fun x42 e43 => ?_)
    have z44 := any_r x37
    have z45 := any_r a2
    have t46 := ti_add e43 (by omega) (by omega)
    refine ur_push rfl ?_
    refine ur_minV rfl (by show ¬ 9 ≤ 2; decide) (fun x47 t48 e49 => ?_)
    exact ur_ret rfl rfl (hQ _ ⟨_, rfl, (by split <;> split <;> omega)⟩ )

set_option maxRecDepth 20000 in
set_option maxHeartbeats 4000000 in
theorem st_X10_spanTo {d kc ks : Nat} {h0 : aH} {Q : Option aV → aH → Prop} (hO0 : OK h0) {a0 : Nat} (g0 : 114 ≤ a0) (t0 : tg h0 a0 = (110, 13)) (a1 : Int32) (pre0 : (0 ≤ fO h0 a0 4 ∧ fO h0 a0 4 ≤ 400) ∧ (a1.toInt = 0 → -2000000 ≤ fO h0 a0 11 ∧ fO h0 a0 11 ≤ 2000000) ∧ (a1.toInt ≠ 0 → -2000000 ≤ fO h0 a0 12 ∧ fO h0 a0 12 ≤ 2000000)) (hQ : ∀ r, (∃ x : Int32, r = some (.inl x) ∧ (x.toInt = (if 999999 < (if a1.toInt = 0 then fO h0 a0 11 else fO h0 a0 12) + fO h0 a0 4 then 999999 else (if a1.toInt = 0 then fO h0 a0 11 else fO h0 a0 12) + fO h0 a0 4))) → Q r h0) : uCall Mt (d + 2) 120 [(.inr (.inr (some a0))), (.inl a1)] h0 kc ks Q := by
  have l_0 : ((0) : Int32).toInt = 0 := by decide
  refine uc_ink [some (.inr (.inr (some a0))), some (.inl a1)] mt_120 (Nat.le_of_ble_eq_true rfl) rfl ?_
  obtain ⟨g18, f3, f4, f5, f6, f7, f8, f9, f10, f11, o15, f12, f13, f14, hc2, k16, k17⟩ := hO0.word t0
  have t1 := fO_of (k := 4) hc2 rfl
  have t19 := fO_of (k := 11) hc2 rfl
  have t20 := fO_of (k := 12) hc2 rfl
  refine ur_ldA rfl rfl ?_
  refine ur_ldI rfl rfl ?_
  refine ur_push rfl ?_
  refine ur_inl rfl (rcv_of hc2) (Nat.le_of_ble_eq_true rfl) (Nat.le_of_ble_eq_true rfl) (st_X10_movedTo hO0 g18 t0 _ _ (by show -400 ≤ (0 : Int32).toInt ∧ (0 : Int32).toInt ≤ 400; omega) (by omega) (fun w21 hr22 => ?_))
  obtain ⟨x23, rfl, f24⟩ := hr22
  show uRun _ (uCall Mt _) _ 6 (_, [(.inl x23)], _, _, _)
  exact ur_ret rfl rfl (hQ _ ⟨_, rfl, (by have w := f24; rw [l_0, Int.add_zero] at w; exact w)⟩ )

set_option maxRecDepth 20000 in
set_option maxHeartbeats 4000000 in
theorem st_X11_span {d kc ks : Nat} {h0 : aH} {Q : Option aV → aH → Prop} (hO0 : OK h0) (a1 : Int32) (a2 : Int32) (a3 : Int32) (pre0 : NA h0) (pre1 : RTW h0) (hQ : ∀ r, (∃ x : Int32, r = some (.inl x) ∧ (((0 ≤ a1.toInt ∧ a1.toInt < fO h0 15 1) → ∃ z, wz h0 a1.toInt z ∧ (¬ (0 ≤ a3.toInt ∧ a3.toInt ≤ 1) ∧ x.toInt = -2000000000 ∨ ∃ r, rtz h0 z r ∧ SPA (fO h0 r 10) (VC h0 r) (fO h0 r 4) a2.toInt a3.toInt x.toInt)) ∧ (¬ (0 ≤ a1.toInt ∧ a1.toInt < fO h0 15 1) → x.toInt = -2000000000))) → Q r h0) : uCall Mt (d + 3) 138 [(.inr (.inr (some 0))), (.inl a1), (.inl a2), (.inl a3)] h0 kc ks Q := by
  have l_m2000000000 : ((-2000000000) : Int32).toInt = -2000000000 := by decide
  have l_0 : ((0) : Int32).toInt = 0 := by decide
  have l_1 : ((1) : Int32).toInt = 1 := by decide
  refine uc_ink [some (.inr (.inr (some 0))), some (.inl a1), some (.inl a2), some (.inl a3), none, none, none, none] mt_138 (Nat.le_of_ble_eq_true rfl) rfl ?_
  obtain ⟨f2, f3, f4, f5, hc1, k6⟩ := ok_15 hO0
  have t7 := fO_of (k := 1) hc1 rfl
  refine ur_ldA rfl rfl ?_
  obtain ⟨hc8, k9⟩ := ok_0 hO0
  refine ur_get rfl hc8 rfl ?_
  refine ur_ldI rfl rfl ?_
  refine ur_inl rfl (rcv_of hc1) (Nat.le_of_ble_eq_true rfl) (Nat.le_of_ble_eq_true rfl) (se_X1_wordAt hO0 _ pre0 (fun w10 hr11 => ?_))
  obtain ⟨o12, rfl, k13, t14, t15⟩ := hr11
  show uRun _ (uCall Mt _) _ 8 (_, [(.inr (.inr o12))], _, _, _)
  refine ur_svAk [some (.inr (.inr (some 0))), some (.inl a1), some (.inl a2), some (.inl a3), some (.inr (.inr o12)), none, none, none] rfl rfl ?_
  refine ur_ldA rfl rfl ?_
  cases o12 with
  | none =>
    refine ur_nulN rfl ?_
    have t17 := t14 rfl
    refine ur_push rfl ?_
    exact ur_ret rfl rfl (hQ _ ⟨_, rfl, ⟨fun q => by exfalso; omega, fun _ => by omega⟩⟩ )
  | some r16 =>
    refine ur_nulS rfl ?_
    have k18 := k13 _ rfl
    have t19 := t15 _ rfl
    refine ur_ldI rfl rfl ?_
    refine ur_push rfl ?_
    refine ur_push rfl ?_
    refine ur_callv rfl rfl (Nat.le_of_ble_eq_true rfl) (Nat.le_of_ble_eq_true rfl) rfl (sp_within _ _ _ _ _) ?_
    refine ur_neB rfl (fun c22 => ?_) (fun c22 => ?_)
    · have t23 := wi_toL c22 l_0 l_1
      refine ur_ldA rfl rfl ?_
      obtain ⟨g40, f25, f26, f27, f28, f29, f30, f31, f32, f33, o37, f34, f35, f36, hc24, k38, k39⟩ := hO0.word k18.2
      refine ur_inl rfl (rcv_of hc24) (Nat.le_of_ble_eq_true rfl) (Nat.le_of_ble_eq_true rfl) (sd_X10_rootWord hO0 g40 k18.2 (fun w41 hr42 => ?_))
      obtain ⟨r43, rfl, k44, f45⟩ := hr42
      show uRun _ (uCall Mt _) _ 32 (_, [(.inr (.inr (some r43)))], _, _, _)
      refine ur_svAk [some (.inr (.inr (some 0))), some (.inl a1), some (.inl a2), some (.inl a3), some (.inr (.inr (some r16))), some (.inr (.inr (some r43))), none, none] rfl rfl ?_
      refine ur_ldI rfl rfl ?_
      refine ur_push rfl ?_
      refine ur_ldA rfl rfl ?_
      have t46 : (0 ≤ fO h0 r43 4 ∧ fO h0 r43 4 ≤ 400) ∧ (-2000000 ≤ fO h0 r43 11 ∧ fO h0 r43 11 ≤ 2000000) ∧ (fO h0 r43 10 = 1 ∨ fO h0 r43 10 = 2 ∧ -2000000 ≤ fO h0 r43 12 ∧ fO h0 r43 12 ≤ 2000000) := pre1 a1.toInt r16 r43 (by omega) (by omega) t19.2 f45
      obtain ⟨g64, f49, f50, f51, f52, f53, f54, f55, f56, f57, o61, f58, f59, f60, hc48, k62, k63⟩ := hO0.word k44.2
      have t47 := fO_of (k := 4) hc48 rfl
      have t65 := fO_of (k := 10) hc48 rfl
      have t66 := fO_of (k := 11) hc48 rfl
      have t67 := fO_of (k := 12) hc48 rfl
      refine ur_get rfl hc48 rfl ?_
      refine ur_push rfl ?_
      refine ur_binV rfl (fun x68 e69 => ?_)
      have z70 := any_r f58
      have t71 := ti_sub e69 (by omega) (by omega)
      refine ur_callv rfl rfl (Nat.le_of_ble_eq_true rfl) (Nat.le_of_ble_eq_true rfl) rfl (sp_within _ _ _ _ _) ?_
      refine ur_neB rfl (fun c74 => ?_) (fun c74 => ?_)
      · have t75 := wi_to c74
        refine ur_ldA rfl rfl ?_
        refine ur_ldI rfl rfl ?_
        refine ur_inl rfl (rcv_of hc48) (Nat.le_of_ble_eq_true rfl) (Nat.le_of_ble_eq_true rfl) (st_X10_spanFrom hO0 g64 k44.2 _ (by omega) (fun w76 hr77 => ?_))
        obtain ⟨x78, rfl, f79⟩ := hr77
        show uRun _ (uCall Mt _) _ 58 (_, [(.inl x78)], _, _, _)
        refine ur_svIk [some (.inr (.inr (some 0))), some (.inl a1), some (.inl a2), some (.inl a3), some (.inr (.inr (some r16))), some (.inr (.inr (some r43))), some (.inl x78), none] rfl rfl ?_
        refine ur_ldA rfl rfl ?_
        refine ur_ldI rfl rfl ?_
        refine ur_inl rfl (rcv_of hc48) (Nat.le_of_ble_eq_true rfl) (Nat.le_of_ble_eq_true rfl) (st_X10_spanTo hO0 g64 k44.2 _ (by omega) (fun w80 hr81 => ?_))
        obtain ⟨x82, rfl, f83⟩ := hr81
        show uRun _ (uCall Mt _) _ 66 (_, [(.inl x82)], _, _, _)
        refine ur_svIk [some (.inr (.inr (some 0))), some (.inl a1), some (.inl a2), some (.inl a3), some (.inr (.inr (some r16))), some (.inr (.inr (some r43))), some (.inl x78), some (.inl x82)] rfl rfl ?_
        refine ur_ldI rfl rfl ?_
        refine ur_ldI rfl rfl ?_
        have z84 := any_r x78
        have z85 := any_r x82
        refine ur_if2 rfl (fun c86 => ?_) (fun c86 => ?_)
        · have t87 := le_to c86
          refine ur_ldI rfl rfl ?_
          refine ur_if1 rfl (fun c88 => ?_) (fun c88 => ?_)
          · have t89 := ne_to c88
            refine ur_ldI rfl rfl ?_
            exact ur_ret rfl rfl (hQ _ ⟨_, rfl, ⟨fun _ => ⟨r16, t19.2, Or.inr ⟨r43, f45, SPA.y f79 f83 (by omega) (by omega) (by omega) (by omega)⟩⟩, fun q => absurd (by omega) q⟩⟩ )
          · have t90 := ne_no c88
            refine ur_ldI rfl rfl ?_
            refine ur_go rfl ?_
            exact ur_ret rfl rfl (hQ _ ⟨_, rfl, ⟨fun _ => ⟨r16, t19.2, Or.inr ⟨r43, f45, SPA.y f79 f83 (by omega) (by omega) (by omega) (by omega)⟩⟩, fun q => absurd (by omega) q⟩⟩ )
        · have t91 := le_no c86
          refine ur_push rfl ?_
          exact ur_ret rfl rfl (hQ _ ⟨_, rfl, ⟨fun _ => ⟨r16, t19.2, Or.inr ⟨r43, f45, SPA.e f79 f83 (by omega) (by omega)⟩⟩, fun q => absurd (by omega) q⟩⟩ )
      · have t92 := wi_no c74
        refine ur_push rfl ?_
        exact ur_ret rfl rfl (hQ _ ⟨_, rfl, ⟨fun _ => ⟨r16, t19.2, Or.inr ⟨r43, f45, SPA.n (by omega) (by omega)⟩⟩, fun q => absurd (by omega) q⟩⟩ )
    · have t93 := wi_noL c22 l_0 l_1
      refine ur_push rfl ?_
      exact ur_ret rfl rfl (hQ _ ⟨_, rfl, ⟨fun _ => ⟨r16, t19.2, Or.inl ⟨by omega, by omega⟩⟩, fun q => absurd (by omega) q⟩⟩ )

set_option maxRecDepth 20000 in
set_option maxHeartbeats 4000000 in
theorem st_X1_firstCommonDay {d kc ks : Nat} {h0 : aH} {Q : Option aV → aH → Prop} (hO0 : OK h0) {a1 : Nat} (g1 : 114 ≤ a1) (t1 : tg h0 a1 = (110, 13)) {a2 : Nat} (g2 : 114 ≤ a2) (t2 : tg h0 a2 = (110, 13)) (pre0 : (0 ≤ fO h0 a1 4 ∧ fO h0 a1 4 ≤ 400) ∧ (-2000000 ≤ fO h0 a1 11 ∧ fO h0 a1 11 ≤ 2000000) ∧ (fO h0 a1 10 = 1 ∨ fO h0 a1 10 = 2 ∧ -2000000 ≤ fO h0 a1 12 ∧ fO h0 a1 12 ≤ 2000000)) (pre1 : (0 ≤ fO h0 a2 4 ∧ fO h0 a2 4 ≤ 400) ∧ (-2000000 ≤ fO h0 a2 11 ∧ fO h0 a2 11 ≤ 2000000) ∧ (fO h0 a2 10 = 1 ∨ fO h0 a2 10 = 2 ∧ -2000000 ≤ fO h0 a2 12 ∧ fO h0 a2 12 ≤ 2000000)) (hQ : ∀ r, (∃ x : Int32, r = some (.inl x) ∧ (-1 ≤ x.toInt ∧ EVS (fO h0 a2 10) (fO h0 a1 10) (0) (cmn (VC h0 a1) (fO h0 a1 4) (VC h0 a2) (fO h0 a2 4)) (x.toInt))) → Q r h0) : uCall Mt (d + 3) 16 [(.inr (.inr (some 15))), (.inr (.inr (some a1))), (.inr (.inr (some a2)))] h0 kc ks Q := by
  have l_m1 : ((-1) : Int32).toInt = -1 := by decide
  have l_0 : ((0) : Int32).toInt = 0 := by decide
  have l_1 : ((1) : Int32).toInt = 1 := by decide
  refine uc_ink [some (.inr (.inr (some 15))), some (.inr (.inr (some a1))), some (.inr (.inr (some a2))), none, none, none, none, none] mt_16 (Nat.le_of_ble_eq_true rfl) rfl ?_
  obtain ⟨g18, f3, f4, f5, f6, f7, f8, f9, f10, f11, o15, f12, f13, f14, hc2, k16, k17⟩ := hO0.word t1
  have tt1 := fO_of (k := 4) hc2 rfl
  have tt19 := fO_of (k := 10) hc2 rfl
  have tt20 := fO_of (k := 11) hc2 rfl
  have tt21 := fO_of (k := 12) hc2 rfl
  obtain ⟨g39, f24, f25, f26, f27, f28, f29, f30, f31, f32, o36, f33, f34, f35, hc23, k37, k38⟩ := hO0.word t2
  have tt22 := fO_of (k := 4) hc23 rfl
  have tt40 := fO_of (k := 10) hc23 rfl
  have tt41 := fO_of (k := 11) hc23 rfl
  have tt42 := fO_of (k := 12) hc23 rfl
  refine ur_push rfl ?_
  refine ur_svIk [some (.inr (.inr (some 15))), some (.inr (.inr (some a1))), some (.inr (.inr (some a2))), some (.inl (-1)), none, none, none, none] rfl rfl ?_
  refine ur_push rfl ?_
  refine ur_svIk [some (.inr (.inr (some 15))), some (.inr (.inr (some a1))), some (.inr (.inr (some a2))), some (.inl (-1)), some (.inl 0), none, none, none] rfl rfl ?_
  have L48 : ∀ (m49 : Nat) (x43 : Int32) (x44 : Int32) (u45 : Option aV) (u46 : Option aV) (u47 : Option aV) , ((-1 ≤ x43.toInt ∧ x43.toInt ≤ 999999) ∧ (0 ≤ x44.toInt ∧ x44.toInt ≤ 2) ∧ x44.toInt ≤ fO h0 a1 10) → (EVS (fO h0 a2 10) (x44.toInt) (0) (cmn (VC h0 a1) (fO h0 a1 4) (VC h0 a2) (fO h0 a2 4)) (x43.toInt)) → ((3 - x44.toInt).toNat) < m49 → uRun oX1_firstCommonDay (uCall Mt (d + 2)) Q 5 ([some (.inr (.inr (some 15))), some (.inr (.inr (some a1))), some (.inr (.inr (some a2))), some (.inl x43), some (.inl x44), u45, u46, u47], [], h0, kc, ks) := by
    intro m49
    induction m49 with
    | zero => intro x43 x44 u45 u46 u47 iv52 px51 mm53; omega
    | succ m49 ih50 =>
      intro x43 x44 u45 u46 u47 iv52 px51 mm53
      refine ur_ldI rfl rfl ?_
      refine ur_ldA rfl rfl ?_
      refine ur_get rfl hc2 rfl ?_
      have z54 := any_r x44
      have z55 := any_r f12
      refine ur_if2 rfl (fun c56 => ?_) (fun c56 => ?_)
      · have t57 := le_to c56
        refine ur_ldI rfl rfl ?_
        exact ur_ret rfl rfl (hQ _ ⟨_, rfl, ⟨by omega, (px51.cg (by omega) (by omega))⟩⟩ )
      · have t58 := le_no c56
        refine ur_push rfl ?_
        refine ur_svIk [some (.inr (.inr (some 15))), some (.inr (.inr (some a1))), some (.inr (.inr (some a2))), some (.inl x43), some (.inl x44), some (.inl 0), u46, u47] rfl rfl ?_
        have L63 : ∀ (m64 : Nat) (x59 : Int32) (x60 : Int32) (u61 : Option aV) (u62 : Option aV) , ((-1 ≤ x59.toInt ∧ x59.toInt ≤ 999999) ∧ (0 ≤ x60.toInt ∧ x60.toInt ≤ 2) ∧ x60.toInt ≤ fO h0 a2 10) → (EVS (fO h0 a2 10) (x44.toInt) (x60.toInt) (cmn (VC h0 a1) (fO h0 a1 4) (VC h0 a2) (fO h0 a2 4)) (x59.toInt)) → ((3 - x60.toInt).toNat) < m64 → uRun oX1_firstCommonDay (uCall Mt (d + 2)) Q 17 ([some (.inr (.inr (some 15))), some (.inr (.inr (some a1))), some (.inr (.inr (some a2))), some (.inl x59), some (.inl x44), some (.inl x60), u61, u62], [], h0, kc, ks) := by
          intro m64
          induction m64 with
          | zero => intro x59 x60 u61 u62 iv67 px66 mm68; omega
          | succ m64 ih65 =>
            intro x59 x60 u61 u62 iv67 px66 mm68
            refine ur_ldI rfl rfl ?_
            refine ur_ldA rfl rfl ?_
            refine ur_get rfl hc23 rfl ?_
            have z69 := any_r x60
            have z70 := any_r f33
            refine ur_if2 rfl (fun c71 => ?_) (fun c71 => ?_)
            · have t72 := le_to c71
              refine ur_incV (fun z => [some (.inr (.inr (some 15))), some (.inr (.inr (some a1))), some (.inr (.inr (some a2))), some (.inl x59), some (.inl z), some (.inl x60), u61, u62]) rfl rfl (fun _ => rfl) (fun x73 e74 => ?_)
              have t75 := ti_add e74 (by omega) (by omega)
              refine ur_go rfl ?_
              have z76 := any_r x59
              have z77 := any_r x73
              exact ih50 x59 x73 _ _ _ (by omega) (px66.nx (by omega) (by omega) (by omega)) (by omega)
            · have t78 := le_no c71
              refine ur_ldA rfl rfl ?_
              refine ur_ldI rfl rfl ?_
              refine ur_inl rfl (rcv_of hc2) (Nat.le_of_ble_eq_true rfl) (Nat.le_of_ble_eq_true rfl) (st_X10_spanFrom hO0 g18 t1 _ (by omega) (fun w79 hr80 => ?_))
              obtain ⟨x81, rfl, f82⟩ := hr80
              show uRun _ (uCall Mt _) _ 32 (_, [(.inl x81)], _, _, _)
              refine ur_ldA rfl rfl ?_
              refine ur_ldI rfl rfl ?_
              refine ur_inl rfl (rcv_of hc23) (Nat.le_of_ble_eq_true rfl) (Nat.le_of_ble_eq_true rfl) (st_X10_spanFrom hO0 g39 t2 _ (by omega) (fun w83 hr84 => ?_))
              obtain ⟨x85, rfl, f86⟩ := hr84
              show uRun _ (uCall Mt _) _ 38 (_, [(.inl x85), (.inl x81)], _, _, _)
              refine ur_maxV rfl (by show ¬ 9 ≤ 2; decide) (fun x87 t88 e89 => ?_)
              refine ur_svIk [some (.inr (.inr (some 15))), some (.inr (.inr (some a1))), some (.inr (.inr (some a2))), some (.inl x59), some (.inl x44), some (.inl x60), some (.inl x87), u62] rfl rfl ?_
              refine ur_ldA rfl rfl ?_
              refine ur_ldI rfl rfl ?_
              refine ur_inl rfl (rcv_of hc2) (Nat.le_of_ble_eq_true rfl) (Nat.le_of_ble_eq_true rfl) (st_X10_spanTo hO0 g18 t1 _ (by omega) (fun w90 hr91 => ?_))
              obtain ⟨x92, rfl, f93⟩ := hr91
              show uRun _ (uCall Mt _) _ 49 (_, [(.inl x92)], _, _, _)
              refine ur_ldA rfl rfl ?_
              refine ur_ldI rfl rfl ?_
              refine ur_inl rfl (rcv_of hc23) (Nat.le_of_ble_eq_true rfl) (Nat.le_of_ble_eq_true rfl) (st_X10_spanTo hO0 g39 t2 _ (by omega) (fun w94 hr95 => ?_))
              obtain ⟨x96, rfl, f97⟩ := hr95
              show uRun _ (uCall Mt _) _ 55 (_, [(.inl x96), (.inl x92)], _, _, _)
              refine ur_minV rfl (by show ¬ 9 ≤ 2; decide) (fun x98 t99 e100 => ?_)
              refine ur_svIk [some (.inr (.inr (some 15))), some (.inr (.inr (some a1))), some (.inr (.inr (some a2))), some (.inl x59), some (.inl x44), some (.inl x60), some (.inl x87), some (.inl x98)] rfl rfl ?_
              refine ur_ldI rfl rfl ?_
              refine ur_ldI rfl rfl ?_
              have z101 := any_r x87
              have z102 := any_r x98
              refine ur_if2 rfl (fun c103 => ?_) (fun c103 => ?_)
              · have t104 := lt_to c103
                refine ur_incV (fun z => [some (.inr (.inr (some 15))), some (.inr (.inr (some a1))), some (.inr (.inr (some a2))), some (.inl x59), some (.inl x44), some (.inl z), some (.inl x87), some (.inl x98)]) rfl rfl (fun _ => rfl) (fun x105 e106 => ?_)
                have t107 := ti_add e106 (by omega) (by omega)
                refine ur_go rfl ?_
                have z108 := any_r x59
                have z109 := any_r x105
                exact ih65 x59 x105 _ _ (by omega) (px66.st f82 f86 f93 f97 (Or.inl (by omega)) (by omega)) (by omega)
              · have t110 := lt_no c103
                refine ur_ldI rfl rfl ?_
                refine ur_push rfl ?_
                refine ur_if2 rfl (fun c111 => ?_) (fun c111 => ?_)
                · have t112 := eq_to c111
                  refine ur_ldI rfl rfl ?_
                  refine ur_svIk [some (.inr (.inr (some 15))), some (.inr (.inr (some a1))), some (.inr (.inr (some a2))), some (.inl x87), some (.inl x44), some (.inl x60), some (.inl x87), some (.inl x98)] rfl rfl ?_
                  refine ur_incV (fun z => [some (.inr (.inr (some 15))), some (.inr (.inr (some a1))), some (.inr (.inr (some a2))), some (.inl x87), some (.inl x44), some (.inl z), some (.inl x87), some (.inl x98)]) rfl rfl (fun _ => rfl) (fun x113 e114 => ?_)
                  have t115 := ti_add e114 (by omega) (by omega)
                  refine ur_go rfl ?_
                  have z116 := any_r x113
                  exact ih65 x87 x113 _ _ (by omega) (px66.st f82 f86 f93 f97 (Or.inr (by omega)) (by omega)) (by omega)
                · have t117 := eq_no c111
                  refine ur_ldI rfl rfl ?_
                  refine ur_ldI rfl rfl ?_
                  have z118 := any_r x59
                  refine ur_if2 rfl (fun c119 => ?_) (fun c119 => ?_)
                  · have t120 := le_to c119
                    refine ur_incV (fun z => [some (.inr (.inr (some 15))), some (.inr (.inr (some a1))), some (.inr (.inr (some a2))), some (.inl x59), some (.inl x44), some (.inl z), some (.inl x87), some (.inl x98)]) rfl rfl (fun _ => rfl) (fun x121 e122 => ?_)
                    have t123 := ti_add e122 (by omega) (by omega)
                    refine ur_go rfl ?_
                    have z124 := any_r x121
                    exact ih65 x59 x121 _ _ (by omega) (px66.st f82 f86 f93 f97 (Or.inl (by omega)) (by omega)) (by omega)
                  · have t125 := le_no c119
                    refine ur_ldI rfl rfl ?_
                    refine ur_svIk [some (.inr (.inr (some 15))), some (.inr (.inr (some a1))), some (.inr (.inr (some a2))), some (.inl x87), some (.inl x44), some (.inl x60), some (.inl x87), some (.inl x98)] rfl rfl ?_
                    refine ur_incV (fun z => [some (.inr (.inr (some 15))), some (.inr (.inr (some a1))), some (.inr (.inr (some a2))), some (.inl x87), some (.inl x44), some (.inl z), some (.inl x87), some (.inl x98)]) rfl rfl (fun _ => rfl) (fun x126 e127 => ?_)
                    have t128 := ti_add e127 (by omega) (by omega)
                    refine ur_go rfl ?_
                    have z129 := any_r x126
                    exact ih65 x87 x126 _ _ (by omega) (px66.st f82 f86 f93 f97 (Or.inr (by omega)) (by omega)) (by omega)
        have z130 := any_r x43
        exact L63 _ x43 0 (u46) (u47) (by omega) (px51.cg (by omega) (by omega)) (Nat.lt_succ_self _)
  exact L48 _ (-1) 0 (none) (none) (none) (by omega) (EVS.z (by omega) (by omega) (by omega)) (Nat.lt_succ_self _)

set_option maxRecDepth 20000 in
set_option maxHeartbeats 4000000 in
theorem st_X11_evening {d kc ks : Nat} {h0 : aH} {Q : Option aV → aH → Prop} (hO0 : OK h0) (a1 : Int32) (a2 : Int32) (pre0 : NA h0) (pre1 : RTW h0) (hQ : ∀ r, (∃ x : Int32, r = some (.inl x) ∧ ((((0 ≤ a1.toInt ∧ a1.toInt < fO h0 15 1) ∧ (0 ≤ a2.toInt ∧ a2.toInt < fO h0 15 1)) → ∃ z o r s, wz h0 a1.toInt z ∧ wz h0 a2.toInt o ∧ rtz h0 z r ∧ rtz h0 o s ∧ (0 ≤ x.toInt ∨ x.toInt = -2) ∧ EVS (fO h0 s 10) (fO h0 r 10) (0) (cmn (VC h0 r) (fO h0 r 4) (VC h0 s) (fO h0 s 4)) (x.toInt)) ∧ (¬ ((0 ≤ a1.toInt ∧ a1.toInt < fO h0 15 1) ∧ (0 ≤ a2.toInt ∧ a2.toInt < fO h0 15 1)) → x.toInt = -1))) → Q r h0) : uCall Mt (d + 4) 142 [(.inr (.inr (some 0))), (.inl a1), (.inl a2)] h0 kc ks Q := by
  have l_m2 : ((-2) : Int32).toInt = -2 := by decide
  have l_m1 : ((-1) : Int32).toInt = -1 := by decide
  refine uc_ink [some (.inr (.inr (some 0))), some (.inl a1), some (.inl a2), none, none, none] mt_142 (Nat.le_of_ble_eq_true rfl) rfl ?_
  obtain ⟨f2, f3, f4, f5, hc1, k6⟩ := ok_15 hO0
  have t7 := fO_of (k := 1) hc1 rfl
  refine ur_ldA rfl rfl ?_
  obtain ⟨hc8, k9⟩ := ok_0 hO0
  refine ur_get rfl hc8 rfl ?_
  refine ur_ldI rfl rfl ?_
  refine ur_inl rfl (rcv_of hc1) (Nat.le_of_ble_eq_true rfl) (Nat.le_of_ble_eq_true rfl) (se_X1_wordAt hO0 _ pre0 (fun w10 hr11 => ?_))
  obtain ⟨o12, rfl, k13, t14, t15⟩ := hr11
  show uRun _ (uCall Mt _) _ 8 (_, [(.inr (.inr o12))], _, _, _)
  refine ur_svAk [some (.inr (.inr (some 0))), some (.inl a1), some (.inl a2), some (.inr (.inr o12)), none, none] rfl rfl ?_
  refine ur_ldA rfl rfl ?_
  refine ur_get rfl hc8 rfl ?_
  refine ur_ldI rfl rfl ?_
  refine ur_inl rfl (rcv_of hc1) (Nat.le_of_ble_eq_true rfl) (Nat.le_of_ble_eq_true rfl) (se_X1_wordAt hO0 _ pre0 (fun w16 hr17 => ?_))
  obtain ⟨o18, rfl, k19, t20, t21⟩ := hr17
  show uRun _ (uCall Mt _) _ 17 (_, [(.inr (.inr o18))], _, _, _)
  refine ur_svAk [some (.inr (.inr (some 0))), some (.inl a1), some (.inl a2), some (.inr (.inr o12)), some (.inr (.inr o18)), none] rfl rfl ?_
  refine ur_ldA rfl rfl ?_
  cases o12 with
  | none =>
    refine ur_nulN rfl ?_
    have t23 := t14 rfl
    refine ur_push rfl ?_
    exact ur_ret rfl rfl (hQ _ ⟨_, rfl, ⟨fun q => by exfalso; omega, fun _ => by omega⟩⟩ )
  | some r22 =>
    refine ur_nulS rfl ?_
    have k24 := k13 _ rfl
    have t25 := t15 _ rfl
    refine ur_ldA rfl rfl ?_
    cases o18 with
    | none =>
      refine ur_nulN rfl ?_
      have t27 := t20 rfl
      refine ur_push rfl ?_
      exact ur_ret rfl rfl (hQ _ ⟨_, rfl, ⟨fun q => by exfalso; omega, fun _ => by omega⟩⟩ )
    | some r26 =>
      refine ur_nulS rfl ?_
      have k28 := k19 _ rfl
      have t29 := t21 _ rfl
      refine ur_ldA rfl rfl ?_
      refine ur_get rfl hc8 rfl ?_
      refine ur_ldA rfl rfl ?_
      obtain ⟨g46, f31, f32, f33, f34, f35, f36, f37, f38, f39, o43, f40, f41, f42, hc30, k44, k45⟩ := hO0.word k24.2
      refine ur_inl rfl (rcv_of hc30) (Nat.le_of_ble_eq_true rfl) (Nat.le_of_ble_eq_true rfl) (sd_X10_rootWord hO0 g46 k24.2 (fun w47 hr48 => ?_))
      obtain ⟨r49, rfl, k50, f51⟩ := hr48
      show uRun _ (uCall Mt _) _ 38 (_, [(.inr (.inr (some r49))), (.inr (.inr (some 15)))], _, _, _)
      refine ur_ldA rfl rfl ?_
      obtain ⟨g68, f53, f54, f55, f56, f57, f58, f59, f60, f61, o65, f62, f63, f64, hc52, k66, k67⟩ := hO0.word k28.2
      refine ur_inl rfl (rcv_of hc52) (Nat.le_of_ble_eq_true rfl) (Nat.le_of_ble_eq_true rfl) (sd_X10_rootWord hO0 g68 k28.2 (fun w69 hr70 => ?_))
      obtain ⟨r71, rfl, k72, f73⟩ := hr70
      show uRun _ (uCall Mt _) _ 43 (_, [(.inr (.inr (some r71))), (.inr (.inr (some r49))), (.inr (.inr (some 15)))], _, _, _)
      refine ur_inl rfl (rcv_of hc1) (Nat.le_of_ble_eq_true rfl) (Nat.le_of_ble_eq_true rfl) (st_X1_firstCommonDay hO0 k50.1 k50.2 k72.1 k72.2 (pre1 a1.toInt r22 r49 (by omega) (by omega) t25.2 f51) (pre1 a2.toInt r26 r71 (by omega) (by omega) t29.2 f73) (fun w74 hr75 => ?_))
      obtain ⟨x76, rfl, f77⟩ := hr75
      show uRun _ (uCall Mt _) _ 46 (_, [(.inl x76)], _, _, _)
      refine ur_svIk [some (.inr (.inr (some 0))), some (.inl a1), some (.inl a2), some (.inr (.inr (some r22))), some (.inr (.inr (some r26))), some (.inl x76)] rfl rfl ?_
      refine ur_ldI rfl rfl ?_
      refine ur_push rfl ?_
      refine ur_if2 rfl (fun c78 => ?_) (fun c78 => ?_)
      · have t79 := ne_to c78
        refine ur_ldI rfl rfl ?_
        exact ur_ret rfl rfl (hQ _ ⟨_, rfl, ⟨fun _ => ⟨r22, r26, r49, r71, t25.2, t29.2, f51, f73, by omega, f77.2.xc (by omega)⟩, fun q => absurd (by omega) q⟩⟩ )
      · have t80 := ne_no c78
        refine ur_push rfl ?_
        refine ur_go rfl ?_
        exact ur_ret rfl rfl (hQ _ ⟨_, rfl, ⟨fun _ => ⟨r22, r26, r49, r71, t25.2, t29.2, f51, f73, by omega, f77.2.xc (by omega)⟩, fun q => absurd (by omega) q⟩⟩ )
end T9S
