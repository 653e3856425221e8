/-! THE SKY: kin, how many; printed by program but for its head -/
section SKY10
/-- the first one of which a comet came -/
def fq (par : Int → Int) (i : Int) : Int := rtF (fun j => if 0 ≤ par j then 3 else 0) par 200 i
theorem fq_0 {par : Int → Int} {i : Int} (q : par i < 0) : fq par i = i := by
  unfold fq
  show (if (if 0 ≤ par i then (3 : Int) else 0) = 3 then _ else _) = _
  rw [if_neg (by omega : ¬ 0 ≤ par i), if_neg (by decide)]
theorem fq_hc {par : Int → Int} {c : Int} (h : ∀ i : Int, 0 ≤ i → i < c → par i < i) : ∀ i : Int, 0 ≤ i → i < c → (fun j => if 0 ≤ par j then (3 : Int) else 0) i = 3 → 0 ≤ par i ∧ par i < i := fun i h0 h1 k => by
  have k : (if 0 ≤ par i then (3 : Int) else 0) = 3 := k
  by_cases q : 0 ≤ par i
  · exact ⟨q, h i h0 h1⟩
  · rw [if_neg q] at k
    exact absurd k (by decide)
theorem fq_s {par : Int → Int} {c i : Int} (h : ∀ i : Int, 0 ≤ i → i < c → par i < i) (hn : c ≤ 150) (h0 : 0 ≤ i) (h1 : i < c) (q : 0 ≤ par i) : fq par i = fq par (par i) := by
  have b := h i h0 h1
  have e := (rtF_st (fq_hc h) 199 (par i) q (by omega) (by omega)).1
  unfold fq
  show (if (if 0 ≤ par i then (3 : Int) else 0) = 3 then rtF _ par 199 (par i) else _) = _
  rw [if_pos (by rw [if_pos q]), e]
theorem fq_c {par par' : Int → Int} {c : Int} (h : ∀ i : Int, 0 ≤ i → i < c → par i < i) (e : ∀ i : Int, 0 ≤ i → i < c → par' i = par i) {i : Int} (h0 : 0 ≤ i) (h1 : i < c) : fq par' i = fq par i := rtF_c (fq_hc h) (fun j j0 j1 => ⟨by rw [e j j0 j1], e j j0 j1⟩) 200 i h0 h1
def co (h : aH) (c : Int) : Nat := match (arR h 4)[c.toNat]? with
  | some (some z) => z
  | _ => 0
theorem co_of {h : aH} {c : Int} {z : Nat} (w : cz h c z) : co h c = z := by
  unfold cz at w
  unfold co
  rw [w]
def pac (h : aH) (c : Int) : Int := fO h (co h c) 6
theorem pac_lt {h : aH} {i : Int} (g : SKi h i) : ∀ c : Int, 0 ≤ c → c < fO h 1 4 → pac h c < c := fun c c0 c1 => by
  obtain ⟨z, w, p, -⟩ := g.2.1 c c0 c1
  unfold pac
  rw [co_of w]
  unfold CMz CMr at p
  omega
theorem pam_lt {h : aH} (g : SKm h) : ∀ c : Int, 0 ≤ c → c < fI h 4 → gI h 78 c < c := fun c c0 c1 => by
  have p := (g.2.1 c c0 c1).1
  unfold CMm CMr at p
  omega
/-- those with a value, as bits -/
noncomputable def kb (F : Int → Int) (v : Int) : Nat → Int32
  | 0 => 0
  | n + 1 => if F (n : Int) = v then kb F v n ||| (1 <<< (Int32.ofInt (n : Int) &&& 31)) else kb F v n
def KB (F : Int → Int) (v i : Int) (x : Int32) : Prop := 0 ≤ i ∧ x = kb F v i.toNat
theorem KB_0 {F : Int → Int} {v i : Int} {x : Int32} (hi : i = 0) (hx : x = 0) : KB F v i x := by
  subst hi hx
  exact ⟨Int.le_refl 0, rfl⟩
theorem KB_t {F : Int → Int} {v i' : Int} {x u x' i : Int32} (h : KB F v i.toInt x) (q : F i.toInt = v) (e1 : 1 <<< (i &&& 31) = u) (e2 : x ||| u = x') (e : i' = i.toInt + 1) : KB F v i' x' := by
  subst e e1 e2
  obtain ⟨h0, h1⟩ := h
  refine ⟨by omega, ?_⟩
  rw [show (i.toInt + 1).toNat = i.toInt.toNat + 1 by omega]
  show _ = if F (i.toInt.toNat : Int) = v then kb F v i.toInt.toNat ||| (1 <<< (Int32.ofInt (i.toInt.toNat : Int) &&& 31)) else kb F v i.toInt.toNat
  rw [show ((i.toInt.toNat : Nat) : Int) = i.toInt by omega, if_pos q, Int32.ofInt_toInt, h1]
theorem KB_f {F : Int → Int} {v i i' : Int} {x : Int32} (h : KB F v i x) (q : F i ≠ v) (e : i' = i + 1) : KB F v i' x := by
  subst e
  obtain ⟨h0, h1⟩ := h
  refine ⟨by omega, ?_⟩
  rw [show (i + 1).toNat = i.toNat + 1 by omega]
  show _ = if F (i.toNat : Int) = v then kb F v i.toNat ||| (1 <<< (Int32.ofInt (i.toNat : Int) &&& 31)) else kb F v i.toNat
  rw [show ((i.toNat : Nat) : Int) = i by omega, if_neg q]
  exact h1
theorem KB_e {F : Int → Int} {v i i' : Int} {x : Int32} (h : KB F v i x) (e : i' = i) : KB F v i' x := by
  subst e
  exact h
theorem kb_c {F F' : Int → Int} {v v' : Int} (ev : v' = v) : ∀ {n : Nat}, (∀ j : Int, 0 ≤ j → j < (n : Int) → F' j = F j) → kb F' v' n = kb F v n
  | 0, _ => rfl
  | n + 1, h => by
    have ih := kb_c (n := n) (F := F) (F' := F') ev (fun j j0 j1 => h j j0 (by omega))
    show (if F' (n : Int) = v' then kb F' v' n ||| _ else kb F' v' n) = (if F (n : Int) = v then kb F v n ||| _ else kb F v n)
    rw [ih, h (n : Int) (by omega) (by omega), ev]
/-- so many passes behind, by any rule -/
noncomputable def fb (nx : Int → Int) : Nat → Int → Int
  | 0, t => t
  | k + 1, t => if 0 ≤ nx t ∧ nx t ≤ 999999 then fb nx k (nx t) else -1
theorem fb_y {nx : Int → Int} {k k' : Int} {t v : Int} (hk : 1 ≤ k) (e : nx t = v) (q : 0 ≤ v ∧ v ≤ 999999) (e' : k' = k - 1) : fb nx k.toNat t = fb nx k'.toNat v := by
  rw [show k.toNat = k'.toNat + 1 by omega]
  show (if 0 ≤ nx t ∧ nx t ≤ 999999 then _ else _) = _
  rw [e, if_pos q]
theorem fb_n {nx : Int → Int} {k : Int} {t v : Int} (hk : 1 ≤ k) (e : nx t = v) (q : ¬ (0 ≤ v ∧ v ≤ 999999)) : fb nx k.toNat t = -1 := by
  rw [show k.toNat = (k - 1).toNat + 1 by omega]
  show (if 0 ≤ nx t ∧ nx t ≤ 999999 then _ else _) = _
  rw [e, if_neg q]
theorem fb_0 {nx : Int → Int} {k t : Int} (hk : k = 0) : fb nx k.toNat t = t := by
  subst hk
  rfl
theorem fb_c {nx nx' : Int → Int} (e : ∀ t : Int, nx' t = nx t) : ∀ (k : Nat) (t : Int), fb nx' k t = fb nx k t
  | 0, _ => rfl
  | k + 1, t => by
    show (if 0 ≤ nx' t ∧ nx' t ≤ 999999 then fb nx' k (nx' t) else -1) = (if 0 ≤ nx t ∧ nx t ≤ 999999 then fb nx k (nx t) else -1)
    rw [e t, fb_c e k (nx t)]
theorem fb_ret {nx f : Int → Int} {p : Int} (h : FWr nx f p 60) : ∀ (j : Nat) (i : Int), 0 ≤ i → i + (j : Int) ≤ 60 → 0 ≤ f i → fb nx j (f i) = f (i + (j : Int)) := by
  have neg : ∀ (j : Nat) (i : Int), 0 ≤ i → i + (j : Int) ≤ 60 → f i = -1 → f (i + (j : Int)) = -1 := by
    intro j
    induction j with
    | zero => intro i _ _ e; rw [show i + ((0 : Nat) : Int) = i by omega]; exact e
    | succ j ih =>
      intro i i0 i1 e
      rw [show i + ((j + 1 : Nat) : Int) = i + 1 + (j : Int) by omega]
      exact ih (i + 1) (by omega) (by omega) ((h.2 i i0 (by omega)).2 (by omega))
  intro j
  induction j with
  | zero => intro i _ _ _; rw [show i + ((0 : Nat) : Int) = i by omega]; rfl
  | succ j ih =>
    intro i i0 i1 q
    have s := (h.2 i i0 (by omega)).1 q
    rw [show i + ((j + 1 : Nat) : Int) = i + 1 + (j : Int) by omega]
    show (if 0 ≤ nx (f i) ∧ nx (f i) ≤ 999999 then fb nx j (nx (f i)) else -1) = _
    by_cases d : 0 ≤ nx (f i) ∧ nx (f i) ≤ 999999
    · rw [dyF_y d] at s
      rw [if_pos d, ← s]
      exact ih (i + 1) (by omega) (by omega) (by omega)
    · rw [dyF_n d] at s
      rw [if_neg d]
      exact (neg j (i + 1) (by omega) (by omega) s).symm
set_option maxRecDepth 20000 in
set_option maxHeartbeats 4000000 in
theorem sd_X11_count {d kc ks : Nat} {h0 : aH} {Q : Option aV → aH → Prop} (hO0 : OK h0) (a1 : Int32) (hQ : ∀ r, (∃ x : Int32, r = some (.inl x) ∧ ((a1.toInt = 0 → x.toInt = fO h0 1 2) ∧ (a1.toInt = 1 → x.toInt = fO h0 1 4) ∧ (a1.toInt = 2 → x.toInt = fO h0 15 1) ∧ (a1.toInt = 3 → x.toInt = fO h0 5 1) ∧ (a1.toInt = 4 → x.toInt = fO h0 41 6) ∧ (a1.toInt = 5 → x.toInt = fO h0 52 2) ∧ (a1.toInt = 6 → x.toInt = fO h0 55 1) ∧ (a1.toInt < 0 ∨ 6 < a1.toInt → x.toInt = -1))) → Q r h0) : uCall Mt (d + 1) 165 [(.inr (.inr (some 0))), (.inl a1)] h0 kc ks Q := by
  have l_m1 : ((-1) : Int32).toInt = -1 := by decide
  refine uc_ink [some (.inr (.inr (some 0))), some (.inl a1)] mt_165 (Nat.le_of_ble_eq_true rfl) rfl ?_
  obtain ⟨f2, f3, hc1, k4⟩ := ok_1 hO0
  have t5 := fO_of (k := 2) hc1 rfl
  have t6 := fO_of (k := 4) hc1 rfl
  obtain ⟨f8, f9, f10, f11, hc7, k12⟩ := ok_15 hO0
  have t13 := fO_of (k := 1) hc7 rfl
  obtain ⟨f15, f16, f17, f18, hc14, k19⟩ := ok_5 hO0
  have t20 := fO_of (k := 1) hc14 rfl
  obtain ⟨f22, f23, hc21, k24⟩ := ok_41 hO0
  have t25 := fO_of (k := 6) hc21 rfl
  obtain ⟨f27, hc26, k28⟩ := ok_52 hO0
  have t29 := fO_of (k := 2) hc26 rfl
  obtain ⟨f31, hc30, k32⟩ := ok_55 hO0
  have t33 := fO_of (k := 1) hc30 rfl
  refine ur_ldI rfl rfl ?_
  rcases (show (a1.toInt < 0 ∨ 6 < a1.toInt) ∨ a1.toInt = 0 ∨ a1.toInt = 1 ∨ a1.toInt = 2 ∨ a1.toInt = 3 ∨ a1.toInt = 4 ∨ a1.toInt = 5 ∨ a1.toInt = 6 by omega) with t34 | t34 | t34 | t34 | t34 | t34 | t34 | t34
  · refine ur_tabO rfl (by show a1.toInt < 0 ∨ 0 + 7 ≤ a1.toInt; omega) ?_
    refine ur_push rfl ?_
    exact ur_ret rfl rfl (hQ _ ⟨_, rfl, ⟨fun q => by omega, fun q => by omega, fun q => by omega, fun q => by omega, fun q => by omega, fun q => by omega, fun q => by omega, fun q => by omega⟩⟩ )
  · refine ur_tabI rfl (by omega) (by rw [t34]; rfl) ?_
    refine ur_ldA rfl rfl ?_
    obtain ⟨hc35, k36⟩ := ok_0 hO0
    refine ur_get rfl hc35 rfl ?_
    refine ur_get rfl hc1 rfl ?_
    exact ur_ret rfl rfl (hQ _ ⟨_, rfl, ⟨fun q => by omega, fun q => by omega, fun q => by omega, fun q => by omega, fun q => by omega, fun q => by omega, fun q => by omega, fun q => by omega⟩⟩ )
  · refine ur_tabI rfl (by omega) (by rw [t34]; rfl) ?_
    refine ur_ldA rfl rfl ?_
    obtain ⟨hc37, k38⟩ := ok_0 hO0
    refine ur_get rfl hc37 rfl ?_
    refine ur_get rfl hc1 rfl ?_
    exact ur_ret rfl rfl (hQ _ ⟨_, rfl, ⟨fun q => by omega, fun q => by omega, fun q => by omega, fun q => by omega, fun q => by omega, fun q => by omega, fun q => by omega, fun q => by omega⟩⟩ )
  · refine ur_tabI rfl (by omega) (by rw [t34]; rfl) ?_
    refine ur_ldA rfl rfl ?_
    obtain ⟨hc39, k40⟩ := ok_0 hO0
    refine ur_get rfl hc39 rfl ?_
    refine ur_get rfl hc7 rfl ?_
    exact ur_ret rfl rfl (hQ _ ⟨_, rfl, ⟨fun q => by omega, fun q => by omega, fun q => by omega, fun q => by omega, fun q => by omega, fun q => by omega, fun q => by omega, fun q => by omega⟩⟩ )
  · refine ur_tabI rfl (by omega) (by rw [t34]; rfl) ?_
    refine ur_ldA rfl rfl ?_
    obtain ⟨hc41, k42⟩ := ok_0 hO0
    refine ur_get rfl hc41 rfl ?_
    refine ur_get rfl hc14 rfl ?_
    exact ur_ret rfl rfl (hQ _ ⟨_, rfl, ⟨fun q => by omega, fun q => by omega, fun q => by omega, fun q => by omega, fun q => by omega, fun q => by omega, fun q => by omega, fun q => by omega⟩⟩ )
  · refine ur_tabI rfl (by omega) (by rw [t34]; rfl) ?_
    refine ur_ldA rfl rfl ?_
    obtain ⟨hc43, k44⟩ := ok_0 hO0
    refine ur_get rfl hc43 rfl ?_
    refine ur_get rfl hc21 rfl ?_
    exact ur_ret rfl rfl (hQ _ ⟨_, rfl, ⟨fun q => by omega, fun q => by omega, fun q => by omega, fun q => by omega, fun q => by omega, fun q => by omega, fun q => by omega, fun q => by omega⟩⟩ )
  · refine ur_tabI rfl (by omega) (by rw [t34]; rfl) ?_
    refine ur_ldA rfl rfl ?_
    obtain ⟨hc45, k46⟩ := ok_0 hO0
    refine ur_get rfl hc45 rfl ?_
    refine ur_get rfl hc26 rfl ?_
    exact ur_ret rfl rfl (hQ _ ⟨_, rfl, ⟨fun q => by omega, fun q => by omega, fun q => by omega, fun q => by omega, fun q => by omega, fun q => by omega, fun q => by omega, fun q => by omega⟩⟩ )
  · refine ur_tabI rfl (by omega) (by rw [t34]; rfl) ?_
    refine ur_ldA rfl rfl ?_
    obtain ⟨hc47, k48⟩ := ok_0 hO0
    refine ur_get rfl hc47 rfl ?_
    refine ur_get rfl hc30 rfl ?_
    exact ur_ret rfl rfl (hQ _ ⟨_, rfl, ⟨fun q => by omega, fun q => by omega, fun q => by omega, fun q => by omega, fun q => by omega, fun q => by omega, fun q => by omega, fun q => by omega⟩⟩ )

set_option maxRecDepth 20000 in
set_option maxHeartbeats 4000000 in
theorem sd_X12_count {d kc ks : Nat} {h0 : aH} {Q : Option aV → aH → Prop} (hO0 : OK h0) (a1 : Int32) (hQ : ∀ r, (∃ x : Int32, r = some (.inl x) ∧ ((a1.toInt = 0 → x.toInt = fI h0 1) ∧ (a1.toInt = 1 → x.toInt = fI h0 4) ∧ (a1.toInt = 2 → x.toInt = fI h0 38) ∧ (a1.toInt = 3 → x.toInt = fI h0 19) ∧ (a1.toInt = 4 → x.toInt = fI h0 34) ∧ (a1.toInt = 5 → x.toInt = fI h0 57) ∧ (a1.toInt = 6 → x.toInt = fI h0 63) ∧ (a1.toInt < 0 ∨ 6 < a1.toInt → x.toInt = -1))) → Q r h0) : uCall Mt (d + 1) 295 [(.inr (.inr (some 69))), (.inl a1)] h0 kc ks Q := by
  have l_m1 : ((-1) : Int32).toInt = -1 := by decide
  refine uc_ink [some (.inr (.inr (some 69))), some (.inl a1)] mt_295 (Nat.le_of_ble_eq_true rfl) rfl ?_
  obtain ⟨fs1, hc2⟩ := hO0.mod
  obtain ⟨f3, p4, t5⟩ := mf_1 hO0 hc2
  have t6 := fI_of hc2 p4
  obtain ⟨f7, p8, t9⟩ := mf_4 hO0 hc2
  have t10 := fI_of hc2 p8
  obtain ⟨f11, p12, t13⟩ := mf_38 hO0 hc2
  have t14 := fI_of hc2 p12
  obtain ⟨f15, p16, t17⟩ := mf_19 hO0 hc2
  have t18 := fI_of hc2 p16
  obtain ⟨f19, p20, t21⟩ := mf_34 hO0 hc2
  have t22 := fI_of hc2 p20
  obtain ⟨f23, p24, t25⟩ := mf_57 hO0 hc2
  have t26 := fI_of hc2 p24
  obtain ⟨f27, p28, t29⟩ := mf_63 hO0 hc2
  have t30 := fI_of hc2 p28
  refine ur_ldI rfl rfl ?_
  rcases (show (a1.toInt < 0 ∨ 6 < a1.toInt) ∨ a1.toInt = 0 ∨ a1.toInt = 1 ∨ a1.toInt = 2 ∨ a1.toInt = 3 ∨ a1.toInt = 4 ∨ a1.toInt = 5 ∨ a1.toInt = 6 by omega) with t31 | t31 | t31 | t31 | t31 | t31 | t31 | t31
  · refine ur_tabO rfl (by show a1.toInt < 0 ∨ 0 + 7 ≤ a1.toInt; omega) ?_
    refine ur_push rfl ?_
    exact ur_ret rfl rfl (hQ _ ⟨_, rfl, ⟨fun q => by omega, fun q => by omega, fun q => by omega, fun q => by omega, fun q => by omega, fun q => by omega, fun q => by omega, fun q => by omega⟩⟩ )
  · refine ur_tabI rfl (by omega) (by rw [t31]; rfl) ?_
    refine ur_ldA rfl rfl ?_
    refine ur_get rfl hc2 p4 ?_
    exact ur_ret rfl rfl (hQ _ ⟨_, rfl, ⟨fun q => by omega, fun q => by omega, fun q => by omega, fun q => by omega, fun q => by omega, fun q => by omega, fun q => by omega, fun q => by omega⟩⟩ )
  · refine ur_tabI rfl (by omega) (by rw [t31]; rfl) ?_
    refine ur_ldA rfl rfl ?_
    refine ur_get rfl hc2 p8 ?_
    exact ur_ret rfl rfl (hQ _ ⟨_, rfl, ⟨fun q => by omega, fun q => by omega, fun q => by omega, fun q => by omega, fun q => by omega, fun q => by omega, fun q => by omega, fun q => by omega⟩⟩ )
  · refine ur_tabI rfl (by omega) (by rw [t31]; rfl) ?_
    refine ur_ldA rfl rfl ?_
    refine ur_get rfl hc2 p12 ?_
    exact ur_ret rfl rfl (hQ _ ⟨_, rfl, ⟨fun q => by omega, fun q => by omega, fun q => by omega, fun q => by omega, fun q => by omega, fun q => by omega, fun q => by omega, fun q => by omega⟩⟩ )
  · refine ur_tabI rfl (by omega) (by rw [t31]; rfl) ?_
    refine ur_ldA rfl rfl ?_
    refine ur_get rfl hc2 p16 ?_
    exact ur_ret rfl rfl (hQ _ ⟨_, rfl, ⟨fun q => by omega, fun q => by omega, fun q => by omega, fun q => by omega, fun q => by omega, fun q => by omega, fun q => by omega, fun q => by omega⟩⟩ )
  · refine ur_tabI rfl (by omega) (by rw [t31]; rfl) ?_
    refine ur_ldA rfl rfl ?_
    refine ur_get rfl hc2 p20 ?_
    exact ur_ret rfl rfl (hQ _ ⟨_, rfl, ⟨fun q => by omega, fun q => by omega, fun q => by omega, fun q => by omega, fun q => by omega, fun q => by omega, fun q => by omega, fun q => by omega⟩⟩ )
  · refine ur_tabI rfl (by omega) (by rw [t31]; rfl) ?_
    refine ur_ldA rfl rfl ?_
    refine ur_get rfl hc2 p24 ?_
    exact ur_ret rfl rfl (hQ _ ⟨_, rfl, ⟨fun q => by omega, fun q => by omega, fun q => by omega, fun q => by omega, fun q => by omega, fun q => by omega, fun q => by omega, fun q => by omega⟩⟩ )
  · refine ur_tabI rfl (by omega) (by rw [t31]; rfl) ?_
    refine ur_ldA rfl rfl ?_
    refine ur_get rfl hc2 p28 ?_
    exact ur_ret rfl rfl (hQ _ ⟨_, rfl, ⟨fun q => by omega, fun q => by omega, fun q => by omega, fun q => by omega, fun q => by omega, fun q => by omega, fun q => by omega, fun q => by omega⟩⟩ )

set_option maxRecDepth 20000 in
set_option maxHeartbeats 4000000 in
theorem sd_X6_firstOf {d kc ks : Nat} {h0 : aH} {Q : Option aV → aH → Prop} (hO0 : OK h0) (a1 : Int32) (pre0 : SKc h0) (pre1 : (0 ≤ a1.toInt ∧ a1.toInt < fO h0 1 4)) (hQ : ∀ r, (∃ x : Int32, r = some (.inl x) ∧ (x.toInt = fq (pac h0) a1.toInt ∧ 0 ≤ x.toInt ∧ x.toInt < fO h0 1 4)) → Q r h0) : uCall Mt (d + 2) 66 [(.inr (.inr (some 1))), (.inl a1)] h0 kc ks Q := by
  have l_0 : ((0) : Int32).toInt = 0 := by decide
  have l_1 : ((1) : Int32).toInt = 1 := by decide
  refine uc_ink [some (.inr (.inr (some 1))), some (.inl a1), none, none, none] mt_66 (Nat.le_of_ble_eq_true rfl) rfl ?_
  obtain ⟨f2, f3, hc1, k4⟩ := ok_1 hO0
  have t5 := fO_of (k := 4) hc1 rfl
  refine ur_ldI rfl rfl ?_
  refine ur_svIk [some (.inr (.inr (some 1))), some (.inl a1), some (.inl a1), none, none] rfl rfl ?_
  refine ur_push rfl ?_
  refine ur_svIk [some (.inr (.inr (some 1))), some (.inl a1), some (.inl a1), some (.inl 0), none] rfl rfl ?_
  have L9 : ∀ (m10 : Nat) (x6 : Int32) (x7 : Int32) (u8 : Option aV) , ((0 ≤ x6.toInt ∧ x6.toInt ≤ 11) ∧ (0 ≤ x7.toInt ∧ x7.toInt ≤ 12) ∧ x6.toInt < fO h0 1 4 ∧ x6.toInt + x7.toInt ≤ a1.toInt ∧ x7.toInt ≤ fO h0 1 4) → (fq (pac h0) x6.toInt = fq (pac h0) a1.toInt) → ((13 - x7.toInt).toNat) < m10 → uRun oX6_firstOf (uCall Mt (d + 1)) Q 4 ([some (.inr (.inr (some 1))), some (.inl a1), some (.inl x6), some (.inl x7), u8], [], h0, kc, ks) := by
    intro m10
    induction m10 with
    | zero => intro x6 x7 u8 iv13 px12 mm14; omega
    | succ m10 ih11 =>
      intro x6 x7 u8 iv13 px12 mm14
      refine ur_ldI rfl rfl ?_
      refine ur_ldA rfl rfl ?_
      refine ur_get rfl hc1 rfl ?_
      have z15 := any_r x7
      have z16 := any_r f3
      refine ur_if2 rfl (fun c17 => ?_) (fun c17 => ?_)
      · have t18 := le_to c17
        refine ur_ldI rfl rfl ?_
        exact ur_ret rfl rfl (hQ _ ⟨_, rfl, (by exfalso; omega)⟩ )
      · have t19 := le_no c17
        refine ur_ldA rfl rfl ?_
        refine ur_ldI rfl rfl ?_
        refine ur_inl rfl (rcv_of hc1) (Nat.le_of_ble_eq_true rfl) (Nat.le_of_ble_eq_true rfl) (sd_X6_cometAt hO0 _ pre0 (fun w20 hr21 => ?_))
        obtain ⟨o22, rfl, k23, t24, t25⟩ := hr21
        show uRun _ (uCall Mt _) _ 17 (_, [(.inr (.inr o22))], _, _, _)
        refine ur_svAk [some (.inr (.inr (some 1))), some (.inl a1), some (.inl x6), some (.inl x7), some (.inr (.inr o22))] rfl rfl ?_
        refine ur_ldA rfl rfl ?_
        cases o22 with
        | none =>
          refine ur_nulN rfl ?_
          have t27 := t24 rfl
          refine ur_ldI rfl rfl ?_
          exact ur_ret rfl rfl (hQ _ ⟨_, rfl, (by exfalso; omega)⟩ )
        | some r26 =>
          refine ur_nulS rfl ?_
          have k28 := k23 _ rfl
          have t29 := t25 _ rfl
          obtain ⟨g50, f31, f32, f33, f34, f35, f36, f37, f38, f39, f40, q41, q42, o43, q44, hc30, k45, k46, k47, k48, k49⟩ := hO0.comet k28.2
          have t51 := fO_of (k := 6) hc30 rfl
          have t52 : pac h0 x6.toInt = fO h0 r26 6 := by unfold pac; rw [co_of t29.2]
          have t53 := pac_lt pre0 x6.toInt (by omega) (by omega)
          refine ur_ldA rfl rfl ?_
          refine ur_get rfl hc30 rfl ?_
          refine ur_if1 rfl (fun c54 => ?_) (fun c54 => ?_)
          · have t55 := le_to c54
            refine ur_ldA rfl rfl ?_
            refine ur_get rfl hc30 rfl ?_
            refine ur_svIk [some (.inr (.inr (some 1))), some (.inl a1), some (.inl f37), some (.inl x7), some (.inr (.inr (some r26)))] rfl rfl ?_
            refine ur_incV (fun z => [some (.inr (.inr (some 1))), some (.inl a1), some (.inl f37), some (.inl z), some (.inr (.inr (some r26)))]) rfl rfl (fun _ => rfl) (fun x56 e57 => ?_)
            have t58 := ti_add e57 (by omega) (by omega)
            refine ur_go rfl ?_
            have z59 := any_r f37
            have z60 := any_r x56
            exact ih11 f37 x56 _ (by omega) ((show fq (pac h0) f37.toInt = fq (pac h0) x6.toInt by rw [fq_s (pac_lt pre0) (by omega) (show 0 ≤ x6.toInt by omega) (by omega) (by omega), show pac h0 x6.toInt = f37.toInt by omega]).trans px12) (by omega)
          · have t61 := le_no c54
            refine ur_ldI rfl rfl ?_
            exact ur_ret rfl rfl (hQ _ ⟨_, rfl, ⟨(fq_0 (par := pac h0) (show pac h0 x6.toInt < 0 by omega)).symm.trans px12, by omega⟩⟩ )
  have z62 := any_r a1
  exact L9 _ a1 0 (none) (by omega) rfl (Nat.lt_succ_self _)

set_option maxRecDepth 20000 in
set_option maxHeartbeats 4000000 in
theorem sd_X6_kinOf {d kc ks : Nat} {h0 : aH} {Q : Option aV → aH → Prop} (hO0 : OK h0) (a1 : Int32) (pre0 : SKc h0) (pre1 : (0 ≤ a1.toInt ∧ a1.toInt < fO h0 1 4)) (hQ : ∀ r, (∃ x : Int32, r = some (.inl x) ∧ (KB (fun c => fq (pac h0) c) (fq (pac h0) a1.toInt) (fO h0 1 4) x)) → Q r h0) : uCall Mt (d + 3) 65 [(.inr (.inr (some 1))), (.inl a1)] h0 kc ks Q := by
  have l_0 : ((0) : Int32).toInt = 0 := by decide
  have l_1 : ((1) : Int32).toInt = 1 := by decide
  refine uc_ink [some (.inr (.inr (some 1))), some (.inl a1), none, none, none] mt_65 (Nat.le_of_ble_eq_true rfl) rfl ?_
  obtain ⟨f2, f3, hc1, k4⟩ := ok_1 hO0
  have t5 := fO_of (k := 4) hc1 rfl
  refine ur_ldA rfl rfl ?_
  refine ur_ldI rfl rfl ?_
  refine ur_inl rfl (rcv_of hc1) (Nat.le_of_ble_eq_true rfl) (Nat.le_of_ble_eq_true rfl) (sd_X6_firstOf hO0 _ pre0 (by omega) (fun w6 hr7 => ?_))
  obtain ⟨x8, rfl, f9⟩ := hr7
  show uRun _ (uCall Mt _) _ 5 (_, [(.inl x8)], _, _, _)
  refine ur_svIk [some (.inr (.inr (some 1))), some (.inl a1), some (.inl x8), none, none] rfl rfl ?_
  refine ur_push rfl ?_
  refine ur_svIk [some (.inr (.inr (some 1))), some (.inl a1), some (.inl x8), some (.inl 0), none] rfl rfl ?_
  refine ur_push rfl ?_
  refine ur_svIk [some (.inr (.inr (some 1))), some (.inl a1), some (.inl x8), some (.inl 0), some (.inl 0)] rfl rfl ?_
  have L12 : ∀ (m13 : Nat) (x10 : Int32) (x11 : Int32) , ((0 ≤ x11.toInt ∧ x11.toInt ≤ 12) ∧ x11.toInt ≤ fO h0 1 4) → (KB (fun c => fq (pac h0) c) (fq (pac h0) a1.toInt) x11.toInt x10) → ((13 - x11.toInt).toNat) < m13 → uRun oX6_kinOf (uCall Mt (d + 2)) Q 11 ([some (.inr (.inr (some 1))), some (.inl a1), some (.inl x8), some (.inl x10), some (.inl x11)], [], h0, kc, ks) := by
    intro m13
    induction m13 with
    | zero => intro x10 x11 iv16 px15 mm17; omega
    | succ m13 ih14 =>
      intro x10 x11 iv16 px15 mm17
      refine ur_ldI rfl rfl ?_
      refine ur_ldA rfl rfl ?_
      refine ur_get rfl hc1 rfl ?_
      have z18 := any_r x11
      have z19 := any_r f3
      refine ur_if2 rfl (fun c20 => ?_) (fun c20 => ?_)
      · have t21 := le_to c20
        refine ur_ldI rfl rfl ?_
        exact ur_ret rfl rfl (hQ _ ⟨_, rfl, (KB_e px15 (by omega))⟩ )
      · have t22 := le_no c20
        refine ur_ldA rfl rfl ?_
        refine ur_ldI rfl rfl ?_
        refine ur_inl rfl (rcv_of hc1) (Nat.le_of_ble_eq_true rfl) (Nat.le_of_ble_eq_true rfl) (sd_X6_firstOf hO0 _ pre0 (by omega) (fun w23 hr24 => ?_))
        obtain ⟨x25, rfl, f26⟩ := hr24
        show uRun _ (uCall Mt _) _ 26 (_, [(.inl x25)], _, _, _)
        refine ur_ldI rfl rfl ?_
        have z27 := any_r x25
        have z28 := any_r x8
        refine ur_if2 rfl (fun c29 => ?_) (fun c29 => ?_)
        · have t30 := ne_to c29
          refine ur_incV (fun z => [some (.inr (.inr (some 1))), some (.inl a1), some (.inl x8), some (.inl x10), some (.inl z)]) rfl rfl (fun _ => rfl) (fun x31 e32 => ?_)
          have t33 := ti_add e32 (by omega) (by omega)
          refine ur_go rfl ?_
          have z34 := any_r x31
          exact ih14 x10 x31 (by omega) (KB_f px15 (show fq (pac h0) x11.toInt ≠ fq (pac h0) a1.toInt from fun e => (show x25.toInt ≠ x8.toInt by omega) (f26.1.trans (e.trans f9.1.symm))) (by omega)) (by omega)
        · have t35 := ne_no c29
          refine ur_ldI rfl rfl ?_
          refine ur_push rfl ?_
          refine ur_ldI rfl rfl ?_
          refine ur_binV rfl (fun x36 e37 => ?_)
          refine ur_binV rfl (fun x38 e39 => ?_)
          refine ur_svIk [some (.inr (.inr (some 1))), some (.inl a1), some (.inl x8), some (.inl x38), some (.inl x11)] rfl rfl ?_
          refine ur_incV (fun z => [some (.inr (.inr (some 1))), some (.inl a1), some (.inl x8), some (.inl x38), some (.inl z)]) rfl rfl (fun _ => rfl) (fun x40 e41 => ?_)
          have t42 := ti_add e41 (by omega) (by omega)
          refine ur_go rfl ?_
          have z43 := any_r x40
          exact ih14 x38 x40 (by omega) (KB_t (i := x11) px15 (show fq (pac h0) x11.toInt = fq (pac h0) a1.toInt from f26.1.symm.trans ((show x25.toInt = x8.toInt by omega).trans f9.1)) e37 e39 (by omega)) (by omega)
  exact L12 _ 0 0 (by omega) (KB_0 (by omega) rfl) (Nat.lt_succ_self _)

set_option maxRecDepth 20000 in
set_option maxHeartbeats 4000000 in
theorem sd_X11_kin {d kc ks : Nat} {h0 : aH} {Q : Option aV → aH → Prop} (hO0 : OK h0) (a1 : Int32) (pre0 : SKc h0) (hQ : ∀ r, (∃ x : Int32, r = some (.inl x) ∧ (((0 ≤ a1.toInt ∧ a1.toInt < fO h0 1 4) → KB (fun c => fq (pac h0) c) (fq (pac h0) a1.toInt) (fO h0 1 4) x) ∧ (¬ (0 ≤ a1.toInt ∧ a1.toInt < fO h0 1 4) → x.toInt = -1))) → Q r h0) : uCall Mt (d + 4) 155 [(.inr (.inr (some 0))), (.inl a1)] h0 kc ks Q := by
  have l_m1 : ((-1) : Int32).toInt = -1 := by decide
  refine uc_ink [some (.inr (.inr (some 0))), some (.inl a1)] mt_155 (Nat.le_of_ble_eq_true rfl) rfl ?_
  obtain ⟨f2, f3, hc1, k4⟩ := ok_1 hO0
  have t5 := fO_of (k := 4) hc1 rfl
  refine ur_ldA rfl rfl ?_
  obtain ⟨hc6, k7⟩ := ok_0 hO0
  refine ur_get rfl hc6 rfl ?_
  refine ur_ldI rfl rfl ?_
  refine ur_inl rfl (rcv_of hc1) (Nat.le_of_ble_eq_true rfl) (Nat.le_of_ble_eq_true rfl) (sd_X6_cometAt hO0 _ pre0 (fun w8 hr9 => ?_))
  obtain ⟨o10, rfl, k11, t12, t13⟩ := hr9
  show uRun _ (uCall Mt _) _ 8 (_, [(.inr (.inr o10))], _, _, _)
  cases o10 with
  | none =>
    refine ur_nulN rfl ?_
    have t15 := t12 rfl
    refine ur_push rfl ?_
    exact ur_ret rfl rfl (hQ _ ⟨_, rfl, ⟨fun q => by exfalso; omega, fun _ => by omega⟩⟩ )
  | some r14 =>
    refine ur_nulS rfl ?_
    have k16 := k11 _ rfl
    have t17 := t13 _ rfl
    refine ur_ldA rfl rfl ?_
    refine ur_get rfl hc6 rfl ?_
    refine ur_ldI rfl rfl ?_
    refine ur_inl rfl (rcv_of hc1) (Nat.le_of_ble_eq_true rfl) (Nat.le_of_ble_eq_true rfl) (sd_X6_kinOf hO0 _ pre0 (by omega) (fun w18 hr19 => ?_))
    obtain ⟨x20, rfl, f21⟩ := hr19
    show uRun _ (uCall Mt _) _ 21 (_, [(.inl x20)], _, _, _)
    exact ur_ret rfl rfl (hQ _ ⟨_, rfl, ⟨fun _ => f21, fun q => absurd (by omega) q⟩⟩ )

set_option maxRecDepth 20000 in
set_option maxHeartbeats 4000000 in
theorem sd_X12_firstOf {d kc ks : Nat} {h0 : aH} {Q : Option aV → aH → Prop} (hO0 : OK h0) (hX0 : SX h0) (a1 : Int32) (b1 : 0 ≤ a1.toInt ∧ a1.toInt ≤ 11) (pre0 : SKm h0) (pre1 : a1.toInt < fI h0 4) (hQ : ∀ r, (∃ x : Int32, r = some (.inl x) ∧ (x.toInt = fq (gI h0 78) a1.toInt ∧ 0 ≤ x.toInt ∧ x.toInt < fI h0 4)) → Q r h0) : uCall Mt (d + 1) 279 [(.inr (.inr (some 69))), (.inl a1)] h0 kc ks Q := by
  have l_0 : ((0) : Int32).toInt = 0 := by decide
  refine uc_ink [some (.inr (.inr (some 69))), some (.inl a1), none] mt_279 (Nat.le_of_ble_eq_true rfl) rfl ?_
  obtain ⟨fs1, hc2⟩ := hO0.mod
  obtain ⟨f3, p4, t5⟩ := mf_4 hO0 hc2
  have t6 := fI_of hc2 p4
  refine ur_ldI rfl rfl ?_
  refine ur_svIk [some (.inr (.inr (some 69))), some (.inl a1), some (.inl a1)] rfl rfl ?_
  have L8 : ∀ (m9 : Nat) (x7 : Int32) , ((0 ≤ x7.toInt ∧ x7.toInt ≤ 11) ∧ x7.toInt < fI h0 4) → (fq (gI h0 78) x7.toInt = fq (gI h0 78) a1.toInt) → (x7.toInt.toNat) < m9 → uRun oX12_firstOf (uCall Mt (d + 0)) Q 2 ([some (.inr (.inr (some 69))), some (.inl a1), some (.inl x7)], [], h0, kc, ks) := by
    intro m9
    induction m9 with
    | zero => intro x7 iv12 px11 mm13; omega
    | succ m9 ih10 =>
      intro x7 iv12 px11 mm13
      have t14 := pam_lt pre0 x7.toInt (by omega) (by omega)
      refine ur_ldA rfl rfl ?_
      refine ur_get rfl hc2 (mf_11 hO0 hc2) ?_
      refine ur_ldI rfl rfl ?_
      obtain ⟨xs16, hc15, hn17, he18⟩ := hO0.int (hO0.fix 78 (by decide) rfl)
      refine ur_aldV rfl hc15 hn17 (by omega) (fun x19 hx20 => ?_)
      have t21 := gI_of (j := x7) hc15 hx20
      have t22 : -1 ≤ x19.toInt ∧ x19.toInt ≤ 11 := he18 _ _ hx20
      have t23 := SX.kx (j := x7) hX0 hc15 hx20 (by omega)
      refine ur_if1 rfl (fun c24 => ?_) (fun c24 => ?_)
      · have t25 := lt_to c24
        refine ur_ldI rfl rfl ?_
        exact ur_ret rfl rfl (hQ _ ⟨_, rfl, ⟨(fq_0 (par := (gI h0 78)) (show gI h0 78 x7.toInt < 0 by omega)).symm.trans px11, by omega⟩⟩ )
      · have t26 := lt_no c24
        refine ur_ldA rfl rfl ?_
        refine ur_get rfl hc2 (mf_11 hO0 hc2) ?_
        refine ur_ldI rfl rfl ?_
        refine ur_aldV rfl hc15 hn17 (by omega) (fun x27 hx28 => ?_)
        obtain rfl : x19 = x27 := Option.some.inj (hx20.symm.trans hx28)
        refine ur_svIk [some (.inr (.inr (some 69))), some (.inl a1), some (.inl x19)] rfl rfl ?_
        refine ur_go rfl ?_
        have z29 := any_r x19
        exact ih10 x19 (by omega) ((show fq (gI h0 78) x19.toInt = fq (gI h0 78) x7.toInt by rw [fq_s (pam_lt pre0) (by omega) (show 0 ≤ x7.toInt by omega) (by omega) (by omega), show gI h0 78 x7.toInt = x19.toInt by omega]).trans px11) (by omega)
  have z30 := any_r a1
  exact L8 _ a1 (by omega) rfl (Nat.lt_succ_self _)

set_option maxRecDepth 20000 in
set_option maxHeartbeats 4000000 in
theorem sd_X12_kin {d kc ks : Nat} {h0 : aH} {Q : Option aV → aH → Prop} (hO0 : OK h0) (hX0 : SX h0) (a1 : Int32) (pre0 : SKm h0) (hQ : ∀ r, (∃ x : Int32, r = some (.inl x) ∧ (((0 ≤ a1.toInt ∧ a1.toInt < fI h0 4) → KB (fun c => fq (gI h0 78) c) (fq (gI h0 78) a1.toInt) (fI h0 4) x) ∧ (¬ (0 ≤ a1.toInt ∧ a1.toInt < fI h0 4) → x.toInt = -1))) → Q r h0) : uCall Mt (d + 3) 280 [(.inr (.inr (some 69))), (.inl a1)] h0 kc ks Q := by
  have l_m1 : ((-1) : Int32).toInt = -1 := by decide
  have l_0 : ((0) : Int32).toInt = 0 := by decide
  have l_1 : ((1) : Int32).toInt = 1 := by decide
  refine uc_ink [some (.inr (.inr (some 69))), some (.inl a1), none, none] mt_280 (Nat.le_of_ble_eq_true rfl) rfl ?_
  obtain ⟨fs1, hc2⟩ := hO0.mod
  obtain ⟨f3, p4, t5⟩ := mf_4 hO0 hc2
  have t6 := fI_of hc2 p4
  refine ur_ldA rfl rfl ?_
  refine ur_ldI rfl rfl ?_
  refine ur_inl rfl (rcv_of hc2) (Nat.le_of_ble_eq_true rfl) (Nat.le_of_ble_eq_true rfl) (sd_X12_isComet hO0 _ (fun w7 hr8 => ?_))
  obtain ⟨b9, rfl, t10, t11⟩ := hr8
  show uRun _ (uCall Mt _) _ 5 (_, [(.inl (bi b9))], _, _, _)
  refine ur_neB rfl (fun c12 => ?_) (fun c12 => ?_)
  · have t13 := t10 c12
    clear t10 t11
    refine ur_push rfl ?_
    refine ur_svIk [some (.inr (.inr (some 69))), some (.inl a1), some (.inl 0), none] rfl rfl ?_
    refine ur_push rfl ?_
    refine ur_svIk [some (.inr (.inr (some 69))), some (.inl a1), some (.inl 0), some (.inl 0)] rfl rfl ?_
    have L16 : ∀ (m17 : Nat) (x14 : Int32) (x15 : Int32) , ((0 ≤ x15.toInt ∧ x15.toInt ≤ 12) ∧ x15.toInt ≤ fI h0 4) → (KB (fun c => fq (gI h0 78) c) (fq (gI h0 78) a1.toInt) x15.toInt x14) → ((13 - x15.toInt).toNat) < m17 → uRun oX12_kin (uCall Mt (d + 2)) Q 14 ([some (.inr (.inr (some 69))), some (.inl a1), some (.inl x14), some (.inl x15)], [], h0, kc, ks) := by
      intro m17
      induction m17 with
      | zero => intro x14 x15 iv20 px19 mm21; omega
      | succ m17 ih18 =>
        intro x14 x15 iv20 px19 mm21
        refine ur_ldI rfl rfl ?_
        refine ur_ldA rfl rfl ?_
        refine ur_get rfl hc2 p4 ?_
        have z22 := any_r x15
        have z23 := any_r f3
        refine ur_if2 rfl (fun c24 => ?_) (fun c24 => ?_)
        · have t25 := le_to c24
          refine ur_ldI rfl rfl ?_
          exact ur_ret rfl rfl (hQ _ ⟨_, rfl, ⟨fun _ => (KB_e px19 (by omega)), fun q => absurd (by omega) q⟩⟩ )
        · have t26 := le_no c24
          refine ur_ldA rfl rfl ?_
          refine ur_ldI rfl rfl ?_
          refine ur_inl rfl (rcv_of hc2) (Nat.le_of_ble_eq_true rfl) (Nat.le_of_ble_eq_true rfl) (sd_X12_firstOf hO0 hX0 _ (by show 0 ≤ x15.toInt ∧ x15.toInt ≤ 11; omega) pre0 (by omega) (fun w27 hr28 => ?_))
          obtain ⟨x29, rfl, f30⟩ := hr28
          show uRun _ (uCall Mt _) _ 27 (_, [(.inl x29)], _, _, _)
          refine ur_ldA rfl rfl ?_
          refine ur_ldI rfl rfl ?_
          refine ur_inl rfl (rcv_of hc2) (Nat.le_of_ble_eq_true rfl) (Nat.le_of_ble_eq_true rfl) (sd_X12_firstOf hO0 hX0 _ (by show 0 ≤ a1.toInt ∧ a1.toInt ≤ 11; omega) pre0 (by omega) (fun w31 hr32 => ?_))
          obtain ⟨x33, rfl, f34⟩ := hr32
          show uRun _ (uCall Mt _) _ 32 (_, [(.inl x33), (.inl x29)], _, _, _)
          have z35 := any_r x29
          have z36 := any_r x33
          refine ur_if2 rfl (fun c37 => ?_) (fun c37 => ?_)
          · have t38 := ne_to c37
            refine ur_incV (fun z => [some (.inr (.inr (some 69))), some (.inl a1), some (.inl x14), some (.inl z)]) rfl rfl (fun _ => rfl) (fun x39 e40 => ?_)
            have t41 := ti_add e40 (by omega) (by omega)
            refine ur_go rfl ?_
            have z42 := any_r x39
            exact ih18 x14 x39 (by omega) (KB_f px19 (show fq (gI h0 78) x15.toInt ≠ fq (gI h0 78) a1.toInt from fun e => (show x29.toInt ≠ x33.toInt by omega) (f30.1.trans (e.trans f34.1.symm))) (by omega)) (by omega)
          · have t43 := ne_no c37
            refine ur_ldI rfl rfl ?_
            refine ur_push rfl ?_
            refine ur_ldI rfl rfl ?_
            refine ur_binV rfl (fun x44 e45 => ?_)
            refine ur_binV rfl (fun x46 e47 => ?_)
            refine ur_svIk [some (.inr (.inr (some 69))), some (.inl a1), some (.inl x46), some (.inl x15)] rfl rfl ?_
            refine ur_incV (fun z => [some (.inr (.inr (some 69))), some (.inl a1), some (.inl x46), some (.inl z)]) rfl rfl (fun _ => rfl) (fun x48 e49 => ?_)
            have t50 := ti_add e49 (by omega) (by omega)
            refine ur_go rfl ?_
            have z51 := any_r x48
            exact ih18 x46 x48 (by omega) (KB_t (i := x15) px19 (show fq (gI h0 78) x15.toInt = fq (gI h0 78) a1.toInt from f30.1.symm.trans ((show x29.toInt = x33.toInt by omega).trans f34.1)) e45 e47 (by omega)) (by omega)
    exact L16 _ 0 0 (by omega) (KB_0 (by omega) rfl) (Nat.lt_succ_self _)
  · have t52 := t11 c12
    clear t10 t11
    refine ur_push rfl ?_
    exact ur_ret rfl rfl (hQ _ ⟨_, rfl, ⟨fun q => by exfalso; omega, fun _ => by omega⟩⟩ )
end SKY10
