/-! ROOTS ONCE, printed by program but for its head -/
section ONC
noncomputable def cn0 (P : Int → Prop) : Nat → Int
  | 0 => 0
  | n + 1 => cn0 P n + (@ite _ (P (n : Int)) (Classical.propDecidable _) 1 0)
/-- so many of those below j are P -/
def PI (P : Int → Prop) (j c : Int) : Prop := 0 ≤ j ∧ cn0 P j.toNat = c
theorem PI_0 {P : Int → Prop} : PI P 0 0 := ⟨Int.le_refl 0, rfl⟩
theorem PI_c {P : Int → Prop} {j j' c c' : Int} (h : PI P j c) (e : j' = j) (e2 : c' = c) : PI P j' c' := by
  rw [e, e2]
  exact h
theorem PI_t {P : Int → Prop} {j j' c c' : Int} (h : PI P j c) (p : P j) (e : j' = j + 1) (e2 : c' = c + 1) : PI P j' c' := by
  obtain ⟨h0, h1⟩ := h
  refine ⟨by omega, ?_⟩
  rw [show j'.toNat = j.toNat + 1 by omega]
  show cn0 P j.toNat + (@ite _ (P (j.toNat : Int)) (Classical.propDecidable _) 1 0) = c'
  rw [show ((j.toNat : Nat) : Int) = j by omega, if_pos p, h1, e2]
theorem PI_f {P : Int → Prop} {j j' c c' : Int} (h : PI P j c) (p : ¬ P j) (e : j' = j + 1) (e2 : c' = c) : PI P j' c' := by
  obtain ⟨h0, h1⟩ := h
  refine ⟨by omega, ?_⟩
  rw [show j'.toNat = j.toNat + 1 by omega]
  show cn0 P j.toNat + (@ite _ (P (j.toNat : Int)) (Classical.propDecidable _) 1 0) = c'
  rw [show ((j.toNat : Nat) : Int) = j by omega, if_neg p, h1, e2]
  exact Int.add_zero _
def wo (h : aH) (i : Int) : Nat := match (arR h 16)[i.toNat]? with
  | some (some z) => z
  | _ => 0
theorem wo_of {h : aH} {i : Int} {z : Nat} (w : wz h i z) : wo h i = z := by
  unfold wz at w
  unfold wo
  rw [w]
def ro (h : aH) (z : Nat) : Nat := match fA h z 9 with
  | some (Sum.inr (Sum.inr (some r))) => r
  | _ => z
theorem ro_of {h : aH} {z r : Nat} (q : rtz h z r) : ro h z = r := by
  unfold ro
  rcases q with ⟨e, q⟩ | e
  · rw [e, q]
  · rw [e]
def rn (h : aH) (i : Int) : Int := fO h (ro h (wo h i)) 0
theorem rn_of {h : aH} {i : Int} {z r : Nat} (w : wz h i z) (q : rtz h z r) : rn h i = fO h r 0 := by
  unfold rn
  rw [wo_of w, ro_of q]
def MKd (sel : Int → Prop) (key : Int → Int) (i k : Int) : Prop := ∃ j : Int, 0 ≤ j ∧ j < i ∧ sel j ∧ key j = k
def OC (sel : Int → Prop) (key : Int → Int) (i : Int) : Prop := sel i ∧ ¬ MKd sel key i (key i)
/-- what has been counted, and the marks -/
def STd (sel : Int → Prop) (key : Int → Int) (b : Int) (g : Int → Int) (i c : Int) : Prop := PI (OC sel key) i c ∧ ∀ k : Int, 0 ≤ k → k < b → (g k ≠ 0 ↔ MKd sel key i k)
theorem STd_0 {sel : Int → Prop} {key : Int → Int} {b i c : Int} {g : Int → Int} (h : ∀ k : Int, 0 ≤ k → k < b → g k = 0) (hi : i = 0) (hc : c = 0) : STd sel key b g i c := by
  subst hi hc
  exact ⟨PI_0, fun k h0 h1 => ⟨fun q => absurd (h k h0 h1) q, fun ⟨j, j0, j1, _⟩ => by omega⟩⟩
theorem STd_n {sel : Int → Prop} {key : Int → Int} {b i i' c : Int} {g g' : Int → Int} (h : STd sel key b g i c) (hg : ∀ k : Int, 0 ≤ k → k < b → g' k = g k) (s : ¬ sel i) (e : i' = i + 1) : STd sel key b g' i' c := by
  obtain ⟨h1, h2⟩ := h
  refine ⟨PI_f h1 (fun q => s q.1) e rfl, fun k k0 k1 => ?_⟩
  rw [hg k k0 k1, h2 k k0 k1]
  constructor
  · exact fun ⟨j, j0, j1, j2, j3⟩ => ⟨j, j0, by omega, j2, j3⟩
  · rintro ⟨j, j0, j1, j2, j3⟩
    by_cases q : j = i
    · exact absurd (q ▸ j2) s
    · exact ⟨j, j0, by omega, j2, j3⟩
theorem STd_o {sel : Int → Prop} {key : Int → Int} {b i i' c r : Int} {g g' : Int → Int} (h : STd sel key b g i c) (hg : ∀ k : Int, 0 ≤ k → k < b → g' k = g k) (hk : key i = r) (hr : 0 ≤ r ∧ r < b) (hm : g r ≠ 0) (e : i' = i + 1) (h0 : 0 ≤ i) : STd sel key b g' i' c := by
  obtain ⟨h1, h2⟩ := h
  have m := (h2 r hr.1 hr.2).mp hm
  refine ⟨PI_f h1 (fun q => q.2 (by rw [hk]; exact m)) e rfl, fun k k0 k1 => ?_⟩
  rw [hg k k0 k1, h2 k k0 k1]
  constructor
  · exact fun ⟨j, j0, j1, j2, j3⟩ => ⟨j, j0, by omega, j2, j3⟩
  · rintro ⟨j, j0, j1, j2, j3⟩
    by_cases q : j = i
    · subst q
      rw [← j3, hk]
      exact m
    · exact ⟨j, j0, by omega, j2, j3⟩
theorem STd_t {sel : Int → Prop} {key : Int → Int} {b i i' c c' r : Int} {g g' : Int → Int} (h : STd sel key b g i c) (s : sel i) (hk : key i = r) (hr : 0 ≤ r ∧ r < b) (hm : g r = 0) (h3 : g' r ≠ 0) (hg : ∀ k : Int, 0 ≤ k → k < b → k ≠ r → g' k = g k) (e : i' = i + 1) (e2 : c' = c + 1) (h0 : 0 ≤ i) : STd sel key b g' i' c' := by
  obtain ⟨h1, h2⟩ := h
  have m : ¬ MKd sel key i r := fun q => (h2 r hr.1 hr.2).mpr q hm
  refine ⟨PI_t h1 ⟨s, by rw [hk]; exact m⟩ e e2, fun k k0 k1 => ?_⟩
  by_cases q : k = r
  · subst q
    exact ⟨fun _ => ⟨i, h0, by omega, s, hk⟩, fun _ => h3⟩
  · rw [hg k k0 k1 q, h2 k k0 k1]
    constructor
    · exact fun ⟨j, j0, j1, j2, j3⟩ => ⟨j, j0, by omega, j2, j3⟩
    · rintro ⟨j, j0, j1, j2, j3⟩
      by_cases p : j = i
      · subst p
        exact absurd (j3.symm.trans hk) q
      · exact ⟨j, j0, by omega, j2, j3⟩
theorem bo_st {h h' : aH} {a n : Nat} {p : Nat} {v : Int32} {j : Int} (hl : (arI h a).length = n) (e : arI h' a = (arI h a).set p v) (hp : p < n) (hj : 0 ≤ j) : (j = (p : Int) → gI h' a j = v.toInt) ∧ (j ≠ (p : Int) → gI h' a j = gI h a j) := by
  unfold gI
  rw [e]
  refine ⟨fun q => ?_, fun q => ?_⟩
  · rw [q, List.getD_eq_getElem?_getD, show ((p : Int)).toNat = p from rfl, List.getElem?_set_self (by omega)]
    rfl
  · rw [List.getD_eq_getElem?_getD, List.getElem?_set_ne (by omega), ← List.getD_eq_getElem?_getD]
theorem bo_len {h : aH} {a n : Nat} (hO : OK h) (ha : a < 114) (ht : T0.getD a (999, 0) = (3, n)) : (arI h a).length = n := by
  obtain ⟨xs, hc, hn, he⟩ := hO.boo (hO.fix a ha ht)
  rw [arI_of hc]
  exact hn
theorem nb_0 : vp_nar .boolean (0 : Int32) = 0 := by decide
theorem nb_1 : vp_nar .boolean (1 : Int32) = 1 := by decide
theorem rtz_ok {h : aH} (hO : OK h) {z r : Nat} (t : 114 ≤ z ∧ tg h z = (110, 13)) (q : rtz h z r) : 114 ≤ r ∧ tg h r = (110, 13) := by
  rcases q with ⟨-, q⟩ | q
  · rw [q]
    exact t
  · obtain ⟨g, nu, ki, pe, re, sl, y, m, dd, mo, cr, sp, mi, om, c, k, -⟩ := hO.word t.2
    have e : fA h z 9 = some (.inr (.inr cr)) := fA_of c
    rw [q] at e
    cases e
    exact k r rfl
theorem fO_u0 {W : List Nat} {h h' : aH} {z k : Nat} (hO : OK h) (g : un W h h') (t : 114 ≤ z ∧ tg h z = (110, 13)) (hk : k < 10) (hw : 22000 + k ∉ W) : fO h' z k = fO h z k := fO_eA (fA_un hO g t.1 t.2 hk hw)
set_option maxRecDepth 20000 in
set_option maxHeartbeats 4000000 in
theorem sd_X1_countRoots {d kc ks : Nat} {h0 : aH} {Q : Option aV → aH → Prop} (hO0 : OK h0) (a1 : Int32) (pre0 : NA h0) (hQ : ∀ r h', (∃ x : Int32, r = some (.inl x) ∧ (PI (OC (fun j => a1.toInt < 0 ∨ fO h0 (wo h0 j) 2 = a1.toInt) (rn h0)) (fO h0 15 1) x.toInt)) → OK h' → un [] h0 h' → (NA h') → Q r h') : uCall Mt (d + 2) 17 [(.inr (.inr (some 15))), (.inl a1)] h0 kc ks Q := by
  have l_0 : ((0) : Int32).toInt = 0 := by decide
  have l_1 : ((1) : Int32).toInt = 1 := by decide
  have l_149 : ((149) : Int32).toInt = 149 := by decide
  have l_150 : ((150) : Int32).toInt = 150 := by decide
  refine uc_ink [some (.inr (.inr (some 15))), some (.inl a1), none, none, none, none] mt_17 (Nat.le_of_ble_eq_true rfl) rfl ?_
  obtain ⟨f2, f3, f4, f5, hc1, k6⟩ := ok_15 hO0
  have t7 := fO_of (k := 1) hc1 rfl
  refine ur_push rfl ?_
  refine ur_svIk [some (.inr (.inr (some 15))), some (.inl a1), some (.inl 0), none, none, none] rfl rfl ?_
  have L9 : ∀ (m10 : Nat) (x8 : Int32) (h12 : aH) , OK h12 → un [] h0 h12 → ((0 ≤ x8.toInt ∧ x8.toInt ≤ 150) ∧ fO h12 15 1 = fO h0 15 1) → (∀ k : Int, 0 ≤ k → k < x8.toInt → gI h12 22 k = 0) → ((151 - x8.toInt).toNat) < m10 → uRun oX1_countRoots (uCall Mt (d + 1)) Q 2 ([some (.inr (.inr (some 15))), some (.inl a1), some (.inl x8), none, none, none], [], h12, kc, ks) := by
    intro m10
    induction m10 with
    | zero => intro x8 h12 hO12 hu12 iv14 px13 mm15; omega
    | succ m10 ih11 =>
      intro x8 h12 hO12 hu12 iv14 px13 mm15
      refine ur_ldI rfl rfl ?_
      refine ur_push rfl ?_
      refine ur_if2 rfl (fun c16 => ?_) (fun c16 => ?_)
      · have t17 := le_to c16
        refine ur_push rfl ?_
        refine ur_svIk [some (.inr (.inr (some 15))), some (.inl a1), some (.inl 0), none, none, none] rfl rfl ?_
        refine ur_push rfl ?_
        refine ur_svIk [some (.inr (.inr (some 15))), some (.inl a1), some (.inl 0), some (.inl 0), none, none] rfl rfl ?_
        have t25 := fO_of (k := 1) (hu12.ko (n := 11) hc1 rfl (wid_f (by decide)) (by decide)) rfl
        have L22 : ∀ (m23 : Nat) (x18 : Int32) (x19 : Int32) (u20 : Option aV) (u21 : Option aV) (h26 : aH) , OK h26 → un [] h12 h26 → ((0 ≤ x19.toInt ∧ x19.toInt ≤ 150) ∧ (0 ≤ x18.toInt ∧ x18.toInt ≤ 150) ∧ fO h26 15 1 = fO h0 15 1 ∧ x19.toInt ≤ fO h0 15 1 ∧ x18.toInt ≤ x19.toInt) → (STd (fun j => a1.toInt < 0 ∨ fO h0 (wo h0 j) 2 = a1.toInt) (rn h0) 150 (gI h26 22) x19.toInt x18.toInt) → ((151 - x19.toInt).toNat) < m23 → uRun oX1_countRoots (uCall Mt (d + 1)) Q 26 ([some (.inr (.inr (some 15))), some (.inl a1), some (.inl x18), some (.inl x19), u20, u21], [], h26, kc, ks) := by
          intro m23
          induction m23 with
          | zero => intro x18 x19 u20 u21 h26 hO26 hu26 iv28 px27 mm29; omega
          | succ m23 ih24 =>
            intro x18 x19 u20 u21 h26 hO26 hu26 iv28 px27 mm29
            refine ur_ldI rfl rfl ?_
            refine ur_ldA rfl rfl ?_
            refine ur_get rfl (hu26.ko (n := 11) (hu12.ko (n := 11) hc1 rfl (wid_f (by decide)) (by decide)) rfl (wid_f (by decide)) (by decide)) rfl ?_
            have t30 := fO_of (k := 1) (hu26.ko (n := 11) (hu12.ko (n := 11) hc1 rfl (wid_f (by decide)) (by decide)) rfl (wid_f (by decide)) (by decide)) rfl
            have z31 := any_r x19
            have z32 := any_r f2
            refine ur_if2 rfl (fun c33 => ?_) (fun c33 => ?_)
            · have t34 := le_to c33
              refine ur_ldI rfl rfl ?_
              exact ur_ret rfl rfl (hQ _ _ ⟨_, rfl, PI_c px27.1 (by omega) rfl⟩ hO26 (hu12.tr hu26) (pre0.un hO0 hO26 (hu12.tr hu26) (by decide) (by decide)))
            · have t35 := le_no c33
              refine ur_ldA rfl rfl ?_
              refine ur_ldI rfl rfl ?_
              refine ur_inl rfl (rcv_of (hu26.ko (n := 11) (hu12.ko (n := 11) hc1 rfl (wid_f (by decide)) (by decide)) rfl (wid_f (by decide)) (by decide))) (Nat.le_of_ble_eq_true rfl) (Nat.le_of_ble_eq_true rfl) (se_X1_wordAt hO26 _ (pre0.un hO0 hO26 (hu12.tr hu26) (by decide) (by decide)) (fun w36 hr37 => ?_))
              obtain ⟨o38, rfl, k39, t40, t41⟩ := hr37
              show uRun _ (uCall Mt _) _ 39 (_, [(.inr (.inr o38))], _, _, _)
              refine ur_svAk [some (.inr (.inr (some 15))), some (.inl a1), some (.inl x18), some (.inl x19), some (.inr (.inr o38)), u21] rfl rfl ?_
              refine ur_ldA rfl rfl ?_
              cases o38 with
              | none =>
                refine ur_nulN rfl ?_
                have t43 := t40 rfl
                refine ur_incV (fun z => [some (.inr (.inr (some 15))), some (.inl a1), some (.inl x18), some (.inl z), some (.inr (.inr none)), u21]) rfl rfl (fun _ => rfl) (fun x44 e45 => ?_)
                have t46 := ti_add e45 (by omega) (by omega)
                refine ur_go rfl ?_
                have z47 := any_r x18
                have z48 := any_r x44
                exact ih24 x18 x44 _ _ _ hO26 hu26 (by omega) (by exfalso; omega) (by omega)
              | some r42 =>
                refine ur_nulS rfl ?_
                have k49 := k39 _ rfl
                have t50 := t41 _ rfl
                have w51 : wz h0 x19.toInt r42 := wz_c (arR_u hO0 (hu12.tr hu26) (by decide)) t50.2
                have w52 := wz_ok hO0 w51
                refine ur_ldI rfl rfl ?_
                refine ur_if1 rfl (fun c53 => ?_) (fun c53 => ?_)
                · have t54 := lt_to c53
                  refine ur_ldA rfl rfl ?_
                  obtain ⟨g71, f56, f57, f58, f59, f60, f61, f62, f63, f64, o68, f65, f66, f67, hc55, k69, k70⟩ := hO26.word k49.2
                  refine ur_inl rfl (rcv_of hc55) (Nat.le_of_ble_eq_true rfl) (Nat.le_of_ble_eq_true rfl) (sd_X10_rootWord hO26 g71 k49.2 (fun w72 hr73 => ?_))
                  obtain ⟨r74, rfl, k75, f76⟩ := hr73
                  show uRun _ (uCall Mt _) _ 67 (_, [(.inr (.inr (some r74)))], _, _, _)
                  obtain ⟨g93, f78, f79, f80, f81, f82, f83, f84, f85, f86, o90, f87, f88, f89, hc77, k91, k92⟩ := hO26.word k75.2
                  refine ur_get rfl hc77 rfl ?_
                  have t94 := fO_of (k := 0) hc77 rfl
                  have q95 : rtz h0 r42 r74 := rtz_c (fA_un hO0 (hu12.tr hu26) w52.1 w52.2 (by decide) (by decide)) f76
                  have t96 : fO h26 r74 0 = fO h0 r74 0 := fO_u0 hO0 (hu12.tr hu26) (rtz_ok hO0 w52 q95) (by decide) (by decide)
                  have k97 := rn_of w51 q95
                  refine ur_svIk [some (.inr (.inr (some 15))), some (.inl a1), some (.inl x18), some (.inl x19), some (.inr (.inr (some r42))), some (.inl f78)] rfl rfl ?_
                  refine ur_ldI rfl rfl ?_
                  refine ur_push rfl ?_
                  refine ur_push rfl ?_
                  refine ur_callv rfl rfl (Nat.le_of_ble_eq_true rfl) (Nat.le_of_ble_eq_true rfl) rfl (sp_within _ _ _ _ _) ?_
                  refine ur_eqB rfl (fun c100 => ?_) (fun c100 => ?_)
                  · have t101 := wi_noL c100 l_0 l_149
                    refine ur_incV (fun z => [some (.inr (.inr (some 15))), some (.inl a1), some (.inl x18), some (.inl z), some (.inr (.inr (some r42))), some (.inl f78)]) rfl rfl (fun _ => rfl) (fun x102 e103 => ?_)
                    have t104 := ti_add e103 (by omega) (by omega)
                    refine ur_go rfl ?_
                    have z105 := any_r x18
                    have z106 := any_r x102
                    exact ih24 x18 x102 _ _ _ hO26 hu26 (by omega) (by exfalso; omega) (by omega)
                  · have t107 := wi_toL c100 l_0 l_149
                    refine ur_ldA rfl rfl ?_
                    refine ur_get rfl (hu26.ko (n := 11) (hu12.ko (n := 11) hc1 rfl (wid_f (by decide)) (by decide)) rfl (wid_f (by decide)) (by decide)) rfl ?_
                    refine ur_ldI rfl rfl ?_
                    obtain ⟨xs109, hc108, hn110, he111⟩ := hO26.boo (hO26.fix 22 (by decide) rfl)
                    refine ur_aldV rfl hc108 hn110 (by omega) (fun x112 hx113 => ?_)
                    have t114 := gI_of (j := f78) hc108 hx113
                    refine ur_if1 rfl (fun c115 => ?_) (fun c115 => ?_)
                    · have t116 := eq_to c115
                      refine ur_ldA rfl rfl ?_
                      refine ur_get rfl (hu26.ko (n := 11) (hu12.ko (n := 11) hc1 rfl (wid_f (by decide)) (by decide)) rfl (wid_f (by decide)) (by decide)) rfl ?_
                      refine ur_ldI rfl rfl ?_
                      refine ur_push rfl ?_
                      refine ur_astV (W := []) (m := 150) rfl hO26 hc108 (by decide) hn110 (by omega) (any_r _) (Or.inl rfl) (fun h119 hO119 hv119 d117 hc118 => ?_)
                      have hu119 : un [] h26 h119 := hv119.mono (by decide)
                      have w120 : wI h26 h119 22 ((arI h26 22).set (f78 : Int32).toInt.toNat 1) := ⟨by rw [arI_of hc118, arI_of hc108, nb_1], d117⟩
                      refine ur_incV (fun z => [some (.inr (.inr (some 15))), some (.inl a1), some (.inl z), some (.inl x19), some (.inr (.inr (some r42))), some (.inl f78)]) rfl rfl (fun _ => rfl) (fun x121 e122 => ?_)
                      have z123 := any_r x18
                      have t124 := ti_add e122 (by omega) (by omega)
                      refine ur_incV (fun z => [some (.inr (.inr (some 15))), some (.inl a1), some (.inl x121), some (.inl z), some (.inr (.inr (some r42))), some (.inl f78)]) rfl rfl (fun _ => rfl) (fun x125 e126 => ?_)
                      have t127 := ti_add e126 (by omega) (by omega)
                      refine ur_go rfl ?_
                      have t128 := fO_of (k := 1) ((d117 _ (by decide)).trans (hu26.ko (n := 11) (hu12.ko (n := 11) hc1 rfl (wid_f (by decide)) (by decide)) rfl (wid_f (by decide)) (by decide))) rfl
                      have z129 := any_r x121
                      have z130 := any_r x125
                      exact ih24 x121 x125 _ _ _ hO119 (hu26.tr hu119) (by omega) (STd_t (r := f78.toInt) px27 (by rw [wo_of w51]; omega) (by omega) (by omega) (by omega) (by rw [(bo_st (j := f78.toInt) (bo_len hO26 (by decide) rfl) w120.1 (by omega) (by omega)).1 (by omega)]; decide) (fun k u0 u1 u2 => (bo_st (j := k) (bo_len hO26 (by decide) rfl) w120.1 (by omega) u0).2 (by omega)) (by omega) (by omega) (by omega)) (by omega)
                    · have t131 := eq_no c115
                      refine ur_go rfl ?_
                      refine ur_incV (fun z => [some (.inr (.inr (some 15))), some (.inl a1), some (.inl x18), some (.inl z), some (.inr (.inr (some r42))), some (.inl f78)]) rfl rfl (fun _ => rfl) (fun x132 e133 => ?_)
                      have t134 := ti_add e133 (by omega) (by omega)
                      refine ur_go rfl ?_
                      have z135 := any_r x18
                      have z136 := any_r x132
                      exact ih24 x18 x132 _ _ _ hO26 hu26 (by omega) (STd_o (r := f78.toInt) px27 (fun _ _ _ => rfl) (by omega) (by omega) (by omega) (by omega) (by omega)) (by omega)
                · have t137 := lt_no c53
                  refine ur_ldA rfl rfl ?_
                  obtain ⟨g154, f139, f140, f141, f142, f143, f144, f145, f146, f147, o151, f148, f149, f150, hc138, k152, k153⟩ := hO26.word k49.2
                  refine ur_get rfl hc138 rfl ?_
                  have t155 := fO_of (k := 2) hc138 rfl
                  have t156 : fO h26 r42 2 = fO h0 r42 2 := fO_u0 hO0 (hu12.tr hu26) w52 (by decide) (by decide)
                  refine ur_ldI rfl rfl ?_
                  have z157 := any_r f141
                  have z158 := any_r a1
                  refine ur_if2 rfl (fun c159 => ?_) (fun c159 => ?_)
                  · have t160 := eq_to c159
                    refine ur_ldA rfl rfl ?_
                    refine ur_inl rfl (rcv_of hc138) (Nat.le_of_ble_eq_true rfl) (Nat.le_of_ble_eq_true rfl) (sd_X10_rootWord hO26 g154 k49.2 (fun w161 hr162 => ?_))
                    obtain ⟨r163, rfl, k164, f165⟩ := hr162
                    show uRun _ (uCall Mt _) _ 67 (_, [(.inr (.inr (some r163)))], _, _, _)
                    obtain ⟨g182, f167, f168, f169, f170, f171, f172, f173, f174, f175, o179, f176, f177, f178, hc166, k180, k181⟩ := hO26.word k164.2
                    refine ur_get rfl hc166 rfl ?_
                    have t183 := fO_of (k := 0) hc166 rfl
                    have q184 : rtz h0 r42 r163 := rtz_c (fA_un hO0 (hu12.tr hu26) w52.1 w52.2 (by decide) (by decide)) f165
                    have t185 : fO h26 r163 0 = fO h0 r163 0 := fO_u0 hO0 (hu12.tr hu26) (rtz_ok hO0 w52 q184) (by decide) (by decide)
                    have k186 := rn_of w51 q184
                    refine ur_svIk [some (.inr (.inr (some 15))), some (.inl a1), some (.inl x18), some (.inl x19), some (.inr (.inr (some r42))), some (.inl f167)] rfl rfl ?_
                    refine ur_ldI rfl rfl ?_
                    refine ur_push rfl ?_
                    refine ur_push rfl ?_
                    refine ur_callv rfl rfl (Nat.le_of_ble_eq_true rfl) (Nat.le_of_ble_eq_true rfl) rfl (sp_within _ _ _ _ _) ?_
                    refine ur_eqB rfl (fun c189 => ?_) (fun c189 => ?_)
                    · have t190 := wi_noL c189 l_0 l_149
                      refine ur_incV (fun z => [some (.inr (.inr (some 15))), some (.inl a1), some (.inl x18), some (.inl z), some (.inr (.inr (some r42))), some (.inl f167)]) rfl rfl (fun _ => rfl) (fun x191 e192 => ?_)
                      have t193 := ti_add e192 (by omega) (by omega)
                      refine ur_go rfl ?_
                      have z194 := any_r x18
                      have z195 := any_r x191
                      exact ih24 x18 x191 _ _ _ hO26 hu26 (by omega) (by exfalso; omega) (by omega)
                    · have t196 := wi_toL c189 l_0 l_149
                      refine ur_ldA rfl rfl ?_
                      refine ur_get rfl (hu26.ko (n := 11) (hu12.ko (n := 11) hc1 rfl (wid_f (by decide)) (by decide)) rfl (wid_f (by decide)) (by decide)) rfl ?_
                      refine ur_ldI rfl rfl ?_
                      obtain ⟨xs198, hc197, hn199, he200⟩ := hO26.boo (hO26.fix 22 (by decide) rfl)
                      refine ur_aldV rfl hc197 hn199 (by omega) (fun x201 hx202 => ?_)
                      have t203 := gI_of (j := f167) hc197 hx202
                      refine ur_if1 rfl (fun c204 => ?_) (fun c204 => ?_)
                      · have t205 := eq_to c204
                        refine ur_ldA rfl rfl ?_
                        refine ur_get rfl (hu26.ko (n := 11) (hu12.ko (n := 11) hc1 rfl (wid_f (by decide)) (by decide)) rfl (wid_f (by decide)) (by decide)) rfl ?_
                        refine ur_ldI rfl rfl ?_
                        refine ur_push rfl ?_
                        refine ur_astV (W := []) (m := 150) rfl hO26 hc197 (by decide) hn199 (by omega) (any_r _) (Or.inl rfl) (fun h208 hO208 hv208 d206 hc207 => ?_)
                        have hu208 : un [] h26 h208 := hv208.mono (by decide)
                        have w209 : wI h26 h208 22 ((arI h26 22).set (f167 : Int32).toInt.toNat 1) := ⟨by rw [arI_of hc207, arI_of hc197, nb_1], d206⟩
                        refine ur_incV (fun z => [some (.inr (.inr (some 15))), some (.inl a1), some (.inl z), some (.inl x19), some (.inr (.inr (some r42))), some (.inl f167)]) rfl rfl (fun _ => rfl) (fun x210 e211 => ?_)
                        have z212 := any_r x18
                        have t213 := ti_add e211 (by omega) (by omega)
                        refine ur_incV (fun z => [some (.inr (.inr (some 15))), some (.inl a1), some (.inl x210), some (.inl z), some (.inr (.inr (some r42))), some (.inl f167)]) rfl rfl (fun _ => rfl) (fun x214 e215 => ?_)
                        have t216 := ti_add e215 (by omega) (by omega)
                        refine ur_go rfl ?_
                        have t217 := fO_of (k := 1) ((d206 _ (by decide)).trans (hu26.ko (n := 11) (hu12.ko (n := 11) hc1 rfl (wid_f (by decide)) (by decide)) rfl (wid_f (by decide)) (by decide))) rfl
                        have z218 := any_r x210
                        have z219 := any_r x214
                        exact ih24 x210 x214 _ _ _ hO208 (hu26.tr hu208) (by omega) (STd_t (r := f167.toInt) px27 (by rw [wo_of w51]; omega) (by omega) (by omega) (by omega) (by rw [(bo_st (j := f167.toInt) (bo_len hO26 (by decide) rfl) w209.1 (by omega) (by omega)).1 (by omega)]; decide) (fun k u0 u1 u2 => (bo_st (j := k) (bo_len hO26 (by decide) rfl) w209.1 (by omega) u0).2 (by omega)) (by omega) (by omega) (by omega)) (by omega)
                      · have t220 := eq_no c204
                        refine ur_go rfl ?_
                        refine ur_incV (fun z => [some (.inr (.inr (some 15))), some (.inl a1), some (.inl x18), some (.inl z), some (.inr (.inr (some r42))), some (.inl f167)]) rfl rfl (fun _ => rfl) (fun x221 e222 => ?_)
                        have t223 := ti_add e222 (by omega) (by omega)
                        refine ur_go rfl ?_
                        have z224 := any_r x18
                        have z225 := any_r x221
                        exact ih24 x18 x221 _ _ _ hO26 hu26 (by omega) (STd_o (r := f167.toInt) px27 (fun _ _ _ => rfl) (by omega) (by omega) (by omega) (by omega) (by omega)) (by omega)
                  · have t226 := eq_no c159
                    refine ur_go rfl ?_
                    refine ur_incV (fun z => [some (.inr (.inr (some 15))), some (.inl a1), some (.inl x18), some (.inl z), some (.inr (.inr (some r42))), u21]) rfl rfl (fun _ => rfl) (fun x227 e228 => ?_)
                    have t229 := ti_add e228 (by omega) (by omega)
                    refine ur_go rfl ?_
                    have z230 := any_r x18
                    have z231 := any_r x227
                    exact ih24 x18 x227 _ _ _ hO26 hu26 (by omega) (STd_n px27 (fun _ _ _ => rfl) (fun q => by rw [wo_of w51] at q; omega) (by omega)) (by omega)
        exact L22 _ 0 0 (none) (none) _ hO12 un.rf (by omega) (STd_0 (fun k u0 u1 => px13 k u0 (by omega)) (by omega) (by omega)) (Nat.lt_succ_self _)
      · have t232 := le_no c16
        refine ur_ldA rfl rfl ?_
        refine ur_get rfl (hu12.ko (n := 11) hc1 rfl (wid_f (by decide)) (by decide)) rfl ?_
        have t233 := fO_of (k := 1) (hu12.ko (n := 11) hc1 rfl (wid_f (by decide)) (by decide)) rfl
        refine ur_ldI rfl rfl ?_
        refine ur_push rfl ?_
        obtain ⟨xs235, hc234, hn236, he237⟩ := hO12.boo (hO12.fix 22 (by decide) rfl)
        refine ur_astV (W := []) (m := 150) rfl hO12 hc234 (by decide) hn236 (by omega) (any_r _) (Or.inl rfl) (fun h240 hO240 hv240 d238 hc239 => ?_)
        have hu240 : un [] h12 h240 := hv240.mono (by decide)
        have w241 : wI h12 h240 22 ((arI h12 22).set (x8 : Int32).toInt.toNat 0) := ⟨by rw [arI_of hc239, arI_of hc234, nb_0], d238⟩
        refine ur_incV (fun z => [some (.inr (.inr (some 15))), some (.inl a1), some (.inl z), none, none, none]) rfl rfl (fun _ => rfl) (fun x242 e243 => ?_)
        have z244 := any_r x8
        have t245 := ti_add e243 (by omega) (by omega)
        refine ur_go rfl ?_
        have t246 := fO_of (k := 1) ((d238 _ (by decide)).trans (hu12.ko (n := 11) hc1 rfl (wid_f (by decide)) (by decide))) rfl
        have z247 := any_r x242
        exact ih11 x242 _ hO240 (hu12.tr hu240) (by omega) (fun k u0 u1 => by have b := bo_st (j := k) (bo_len hO12 (by decide) rfl) w241.1 (by omega) u0; by_cases e : k = x8.toInt; exact (b.1 (by omega)).trans (by decide); exact (b.2 (by omega)).trans (px13 k u0 (by omega))) (by omega)
  exact L9 _ 0 _ hO0 un.rf (by omega) (fun k u0 u1 => by exfalso; omega) (Nat.lt_succ_self _)

set_option maxRecDepth 20000 in
set_option maxHeartbeats 4000000 in
theorem sd_X11_once {d kc ks : Nat} {h0 : aH} {Q : Option aV → aH → Prop} (hO0 : OK h0) (a1 : Int32) (pre0 : NA h0) (hQ : ∀ r h', (∃ x : Int32, r = some (.inl x) ∧ (((-1 ≤ a1.toInt ∧ a1.toInt ≤ 8) → PI (OC (fun j => a1.toInt < 0 ∨ fO h0 (wo h0 j) 2 = a1.toInt) (rn h0)) (fO h0 15 1) x.toInt) ∧ (¬ (-1 ≤ a1.toInt ∧ a1.toInt ≤ 8) → x.toInt = -1))) → OK h' → un [] h0 h' → (NA h') → Q r h') : uCall Mt (d + 3) 144 [(.inr (.inr (some 0))), (.inl a1)] h0 kc ks Q := by
  have l_m1 : ((-1) : Int32).toInt = -1 := by decide
  have l_8 : ((8) : Int32).toInt = 8 := by decide
  refine uc_ink [some (.inr (.inr (some 0))), some (.inl a1)] mt_144 (Nat.le_of_ble_eq_true rfl) rfl ?_
  obtain ⟨f2, f3, f4, f5, hc1, k6⟩ := ok_15 hO0
  have t7 := fO_of (k := 1) hc1 rfl
  refine ur_ldI rfl rfl ?_
  refine ur_push rfl ?_
  refine ur_push rfl ?_
  refine ur_callv rfl rfl (Nat.le_of_ble_eq_true rfl) (Nat.le_of_ble_eq_true rfl) rfl (sp_within _ _ _ _ _) ?_
  refine ur_neB rfl (fun c10 => ?_) (fun c10 => ?_)
  · have t11 := wi_toL c10 l_m1 l_8
    refine ur_ldA rfl rfl ?_
    obtain ⟨hc12, k13⟩ := ok_0 hO0
    refine ur_get rfl hc12 rfl ?_
    refine ur_ldI rfl rfl ?_
    refine ur_inl rfl (rcv_of hc1) (Nat.le_of_ble_eq_true rfl) (Nat.le_of_ble_eq_true rfl) (sd_X1_countRoots hO0 _ pre0 (fun w14 h17 hr15 hO17 hv17 hp16 => ?_))
    have hu17 := hv17
    obtain ⟨x18, rfl, f19⟩ := hr15
    show uRun _ (uCall Mt _) _ 20 (_, [(.inl x18)], _, _, _)
    have t20 := fO_of (k := 1) (hv17.ko (n := 11) hc1 rfl (wid_f (by decide)) (by decide)) rfl
    exact ur_ret rfl rfl (hQ _ _ ⟨_, rfl, ⟨fun _ => f19, fun q => absurd (by omega) q⟩⟩ hO17 hu17 (pre0.un hO0 hO17 hu17 (by decide) (by decide)))
  · have t21 := wi_noL c10 l_m1 l_8
    refine ur_push rfl ?_
    exact ur_ret rfl rfl (hQ _ _ ⟨_, rfl, ⟨fun q => absurd q (by omega), fun _ => by omega⟩⟩ hO0 un.rf pre0)

set_option maxRecDepth 20000 in
set_option maxHeartbeats 4000000 in
theorem sd_X12_once {d kc ks : Nat} {h0 : aH} {Q : Option aV → aH → Prop} (hO0 : OK h0) (hX0 : SX h0) (a1 : Int32) (hQ : ∀ r h', (∃ x : Int32, r = some (.inl x) ∧ (((-1 ≤ a1.toInt ∧ a1.toInt ≤ 8) → PI (OC (fun j => a1.toInt < 0 ∨ gI h0 97 j = a1.toInt) (rt h0)) (fI h0 38) x.toInt) ∧ (¬ (-1 ≤ a1.toInt ∧ a1.toInt ≤ 8) → x.toInt = -1))) → OK h' → un [104] h0 h' → Q r h') : uCall Mt (d + 2) 259 [(.inr (.inr (some 69))), (.inl a1)] h0 kc ks Q := by
  have l_m1 : ((-1) : Int32).toInt = -1 := by decide
  have l_0 : ((0) : Int32).toInt = 0 := by decide
  have l_1 : ((1) : Int32).toInt = 1 := by decide
  have l_8 : ((8) : Int32).toInt = 8 := by decide
  refine uc_ink [some (.inr (.inr (some 69))), some (.inl a1), none, none] mt_259 (Nat.le_of_ble_eq_true rfl) rfl ?_
  obtain ⟨fs1, hc2⟩ := hO0.mod
  obtain ⟨f3, p4, t5⟩ := mf_38 hO0 hc2
  have t6 := fI_of hc2 p4
  refine ur_ldI rfl rfl ?_
  refine ur_push rfl ?_
  refine ur_push rfl ?_
  refine ur_callv rfl rfl (Nat.le_of_ble_eq_true rfl) (Nat.le_of_ble_eq_true rfl) rfl (sp_in _ _ _ _ _) ?_
  refine ur_neB rfl (fun c9 => ?_) (fun c9 => ?_)
  · have t10 := wi_toL c9 l_m1 l_8
    refine ur_push rfl ?_
    refine ur_svIk [some (.inr (.inr (some 69))), some (.inl a1), some (.inl 0), none] rfl rfl ?_
    have L12 : ∀ (m13 : Nat) (x11 : Int32) (h15 : aH) , OK h15 → un [104] h0 h15 → ((0 ≤ x11.toInt ∧ x11.toInt ≤ 150) ∧ fI h15 38 = fI h0 38) → (∀ k : Int, 0 ≤ k → k < x11.toInt → gI h15 104 k = 0) → ((151 - x11.toInt).toNat) < m13 → uRun oX12_once (uCall Mt (d + 1)) Q 14 ([some (.inr (.inr (some 69))), some (.inl a1), some (.inl x11), none], [], h15, kc, ks) := by
      intro m13
      induction m13 with
      | zero => intro x11 h15 hO15 hu15 iv17 px16 mm18; omega
      | succ m13 ih14 =>
        intro x11 h15 hO15 hu15 iv17 px16 mm18
        refine ur_ldI rfl rfl ?_
        refine ur_ldA rfl rfl ?_
        obtain ⟨fs19, hc20⟩ := hO15.mod
        obtain ⟨f21, p22, t23⟩ := mf_38 hO15 hc20
        have t24 := fI_of hc20 p22
        refine ur_get rfl hc20 p22 ?_
        have z25 := any_r x11
        have z26 := any_r f21
        refine ur_if2 rfl (fun c27 => ?_) (fun c27 => ?_)
        · have t28 := le_to c27
          refine ur_push rfl ?_
          refine ur_svIk [some (.inr (.inr (some 69))), some (.inl a1), some (.inl 0), none] rfl rfl ?_
          refine ur_push rfl ?_
          refine ur_svIk [some (.inr (.inr (some 69))), some (.inl a1), some (.inl 0), some (.inl 0)] rfl rfl ?_
          have L31 : ∀ (m32 : Nat) (x29 : Int32) (x30 : Int32) (h34 : aH) , OK h34 → un [104] h15 h34 → ((0 ≤ x30.toInt ∧ x30.toInt ≤ 150) ∧ (0 ≤ x29.toInt ∧ x29.toInt ≤ 150) ∧ fI h34 38 = fI h0 38 ∧ x30.toInt ≤ fI h0 38 ∧ x29.toInt ≤ x30.toInt) → (STd (fun j => a1.toInt < 0 ∨ gI h0 97 j = a1.toInt) (rt h0) (fI h0 38) (gI h34 104) x30.toInt x29.toInt) → ((151 - x30.toInt).toNat) < m32 → uRun oX12_once (uCall Mt (d + 1)) Q 39 ([some (.inr (.inr (some 69))), some (.inl a1), some (.inl x29), some (.inl x30)], [], h34, kc, ks) := by
            intro m32
            induction m32 with
            | zero => intro x29 x30 h34 hO34 hu34 iv36 px35 mm37; omega
            | succ m32 ih33 =>
              intro x29 x30 h34 hO34 hu34 iv36 px35 mm37
              refine ur_ldI rfl rfl ?_
              refine ur_ldA rfl rfl ?_
              obtain ⟨fs38, hc39⟩ := hO34.mod
              obtain ⟨f40, p41, t42⟩ := mf_38 hO34 hc39
              have t43 := fI_of hc39 p41
              refine ur_get rfl hc39 p41 ?_
              have z44 := any_r x30
              have z45 := any_r f40
              refine ur_if2 rfl (fun c46 => ?_) (fun c46 => ?_)
              · have t47 := le_to c46
                refine ur_ldI rfl rfl ?_
                exact ur_ret rfl rfl (hQ _ _ ⟨_, rfl, ⟨fun _ => PI_c px35.1 (by omega) rfl, fun q => absurd (by omega) q⟩⟩ hO34 (hu15.tr hu34))
              · have t48 := le_no c46
                refine ur_ldI rfl rfl ?_
                refine ur_if1 rfl (fun c49 => ?_) (fun c49 => ?_)
                · have t50 := lt_to c49
                  refine ur_ldA rfl rfl ?_
                  refine ur_get rfl hc39 (mf_54 hO34 hc39) ?_
                  refine ur_ldA rfl rfl ?_
                  refine ur_ldI rfl rfl ?_
                  refine ur_inl rfl (rcv_of hc39) (Nat.le_of_ble_eq_true rfl) (Nat.le_of_ble_eq_true rfl) (sd_X12_rootOf hO34 ((hX0.un hO0 hO15 hu15 (by decide)).un hO15 hO34 hu34 (by decide)) _ (by show 0 ≤ x30.toInt ∧ x30.toInt ≤ 149; omega) (by omega) (fun w51 hr52 => ?_))
                  obtain ⟨x53, rfl, t54⟩ := hr52
                  show uRun _ (uCall Mt _) _ 70 (_, [(.inl x53), (.inr (.inr (some 104)))], _, _, _)
                  have t55 : rt h34 x30.toInt = rt h0 x30.toInt := rt_c (CEm_of hO0 hX0) (KWm.un hO0 (hu15.tr hu34) (by decide)) (by omega) (by omega)
                  obtain ⟨xs57, hc56, hn58, he59⟩ := hO34.boo (hO34.fix 104 (by decide) rfl)
                  refine ur_aldV rfl hc56 hn58 (by omega) (fun x60 hx61 => ?_)
                  have t62 := gI_of (j := x53) hc56 hx61
                  refine ur_if1 rfl (fun c63 => ?_) (fun c63 => ?_)
                  · have t64 := eq_to c63
                    refine ur_ldA rfl rfl ?_
                    refine ur_get rfl hc39 (mf_54 hO34 hc39) ?_
                    refine ur_ldA rfl rfl ?_
                    refine ur_ldI rfl rfl ?_
                    refine ur_inl rfl (rcv_of hc39) (Nat.le_of_ble_eq_true rfl) (Nat.le_of_ble_eq_true rfl) (sd_X12_rootOf hO34 ((hX0.un hO0 hO15 hu15 (by decide)).un hO15 hO34 hu34 (by decide)) _ (by show 0 ≤ x30.toInt ∧ x30.toInt ≤ 149; omega) (by omega) (fun w65 hr66 => ?_))
                    obtain ⟨x67, rfl, t68⟩ := hr66
                    show uRun _ (uCall Mt _) _ 86 (_, [(.inl x67), (.inr (.inr (some 104)))], _, _, _)
                    have t69 : rt h34 x30.toInt = rt h0 x30.toInt := rt_c (CEm_of hO0 hX0) (KWm.un hO0 (hu15.tr hu34) (by decide)) (by omega) (by omega)
                    refine ur_push rfl ?_
                    refine ur_astV (W := [104]) (m := 150) rfl hO34 hc56 (by decide) hn58 (by omega) (any_r _) (Or.inr (Or.inr (wid_fix (by decide) (by decide)))) (fun h72 hO72 hv72 d70 hc71 => ?_)
                    have hu72 : un [104] h34 h72 := hv72.mono (by decide)
                    have w73 : wI h34 h72 104 ((arI h34 104).set (x67 : Int32).toInt.toNat 1) := ⟨by rw [arI_of hc71, arI_of hc56, nb_1], d70⟩
                    refine ur_incV (fun z => [some (.inr (.inr (some 69))), some (.inl a1), some (.inl z), some (.inl x30)]) rfl rfl (fun _ => rfl) (fun x74 e75 => ?_)
                    have z76 := any_r x29
                    have t77 := ti_add e75 (by omega) (by omega)
                    refine ur_incV (fun z => [some (.inr (.inr (some 69))), some (.inl a1), some (.inl x74), some (.inl z)]) rfl rfl (fun _ => rfl) (fun x78 e79 => ?_)
                    have t80 := ti_add e79 (by omega) (by omega)
                    refine ur_go rfl ?_
                    have t81 := fI_of ((d70 _ (by decide)).trans hc39) p41
                    have z82 := any_r x74
                    have z83 := any_r x78
                    exact ih33 x74 x78 _ hO72 (hu34.tr hu72) (by omega) (STd_t (r := x67.toInt) px35 (by omega) (by omega) (by omega) (by rw [show x67.toInt = x53.toInt by omega]; omega) (by rw [(bo_st (j := x67.toInt) (bo_len hO34 (by decide) rfl) w73.1 (by omega) (by omega)).1 (by omega)]; decide) (fun k u0 u1 u2 => (bo_st (j := k) (bo_len hO34 (by decide) rfl) w73.1 (by omega) u0).2 (by omega)) (by omega) (by omega) (by omega)) (by omega)
                  · have t84 := eq_no c63
                    refine ur_go rfl ?_
                    refine ur_incV (fun z => [some (.inr (.inr (some 69))), some (.inl a1), some (.inl x29), some (.inl z)]) rfl rfl (fun _ => rfl) (fun x85 e86 => ?_)
                    have t87 := ti_add e86 (by omega) (by omega)
                    refine ur_go rfl ?_
                    have z88 := any_r x29
                    have z89 := any_r x85
                    exact ih33 x29 x85 _ hO34 hu34 (by omega) (STd_o (r := x53.toInt) px35 (fun _ _ _ => rfl) (by omega) (by omega) (by omega) (by omega) (by omega)) (by omega)
                · have t90 := lt_no c49
                  refine ur_ldA rfl rfl ?_
                  refine ur_get rfl hc39 (mf_40 hO34 hc39) ?_
                  refine ur_ldI rfl rfl ?_
                  obtain ⟨xs92, hc91, hn93, he94⟩ := hO34.int (hO34.fix 97 (by decide) rfl)
                  refine ur_aldV rfl hc91 hn93 (by omega) (fun x95 hx96 => ?_)
                  have t97 := gI_of (j := x30) hc91 hx96
                  have t98 := gI_keep (a := 97) (kd := 0) (n := 150) hO0 (hu15.tr hu34) (x30 : Int32).toInt (by decide) rfl (by decide) rfl (by decide) (by decide)
                  have t99 : 0 ≤ x95.toInt ∧ x95.toInt ≤ 8 := he94 _ _ hx96
                  refine ur_ldI rfl rfl ?_
                  have z100 := any_r x95
                  have z101 := any_r a1
                  refine ur_if2 rfl (fun c102 => ?_) (fun c102 => ?_)
                  · have t103 := ne_to c102
                    refine ur_incV (fun z => [some (.inr (.inr (some 69))), some (.inl a1), some (.inl x29), some (.inl z)]) rfl rfl (fun _ => rfl) (fun x104 e105 => ?_)
                    have t106 := ti_add e105 (by omega) (by omega)
                    refine ur_go rfl ?_
                    have z107 := any_r x29
                    have z108 := any_r x104
                    exact ih33 x29 x104 _ hO34 hu34 (by omega) (STd_n px35 (fun _ _ _ => rfl) (fun q => by omega) (by omega)) (by omega)
                  · have t109 := ne_no c102
                    refine ur_ldA rfl rfl ?_
                    refine ur_get rfl hc39 (mf_54 hO34 hc39) ?_
                    refine ur_ldA rfl rfl ?_
                    refine ur_ldI rfl rfl ?_
                    refine ur_inl rfl (rcv_of hc39) (Nat.le_of_ble_eq_true rfl) (Nat.le_of_ble_eq_true rfl) (sd_X12_rootOf hO34 ((hX0.un hO0 hO15 hu15 (by decide)).un hO15 hO34 hu34 (by decide)) _ (by show 0 ≤ x30.toInt ∧ x30.toInt ≤ 149; omega) (by omega) (fun w110 hr111 => ?_))
                    obtain ⟨x112, rfl, t113⟩ := hr111
                    show uRun _ (uCall Mt _) _ 70 (_, [(.inl x112), (.inr (.inr (some 104)))], _, _, _)
                    have t114 : rt h34 x30.toInt = rt h0 x30.toInt := rt_c (CEm_of hO0 hX0) (KWm.un hO0 (hu15.tr hu34) (by decide)) (by omega) (by omega)
                    obtain ⟨xs116, hc115, hn117, he118⟩ := hO34.boo (hO34.fix 104 (by decide) rfl)
                    refine ur_aldV rfl hc115 hn117 (by omega) (fun x119 hx120 => ?_)
                    have t121 := gI_of (j := x112) hc115 hx120
                    refine ur_if1 rfl (fun c122 => ?_) (fun c122 => ?_)
                    · have t123 := eq_to c122
                      refine ur_ldA rfl rfl ?_
                      refine ur_get rfl hc39 (mf_54 hO34 hc39) ?_
                      refine ur_ldA rfl rfl ?_
                      refine ur_ldI rfl rfl ?_
                      refine ur_inl rfl (rcv_of hc39) (Nat.le_of_ble_eq_true rfl) (Nat.le_of_ble_eq_true rfl) (sd_X12_rootOf hO34 ((hX0.un hO0 hO15 hu15 (by decide)).un hO15 hO34 hu34 (by decide)) _ (by show 0 ≤ x30.toInt ∧ x30.toInt ≤ 149; omega) (by omega) (fun w124 hr125 => ?_))
                      obtain ⟨x126, rfl, t127⟩ := hr125
                      show uRun _ (uCall Mt _) _ 86 (_, [(.inl x126), (.inr (.inr (some 104)))], _, _, _)
                      have t128 : rt h34 x30.toInt = rt h0 x30.toInt := rt_c (CEm_of hO0 hX0) (KWm.un hO0 (hu15.tr hu34) (by decide)) (by omega) (by omega)
                      refine ur_push rfl ?_
                      refine ur_astV (W := [104]) (m := 150) rfl hO34 hc115 (by decide) hn117 (by omega) (any_r _) (Or.inr (Or.inr (wid_fix (by decide) (by decide)))) (fun h131 hO131 hv131 d129 hc130 => ?_)
                      have hu131 : un [104] h34 h131 := hv131.mono (by decide)
                      have w132 : wI h34 h131 104 ((arI h34 104).set (x126 : Int32).toInt.toNat 1) := ⟨by rw [arI_of hc130, arI_of hc115, nb_1], d129⟩
                      refine ur_incV (fun z => [some (.inr (.inr (some 69))), some (.inl a1), some (.inl z), some (.inl x30)]) rfl rfl (fun _ => rfl) (fun x133 e134 => ?_)
                      have z135 := any_r x29
                      have t136 := ti_add e134 (by omega) (by omega)
                      refine ur_incV (fun z => [some (.inr (.inr (some 69))), some (.inl a1), some (.inl x133), some (.inl z)]) rfl rfl (fun _ => rfl) (fun x137 e138 => ?_)
                      have t139 := ti_add e138 (by omega) (by omega)
                      refine ur_go rfl ?_
                      have t140 := fI_of ((d129 _ (by decide)).trans hc39) p41
                      have z141 := any_r x133
                      have z142 := any_r x137
                      exact ih33 x133 x137 _ hO131 (hu34.tr hu131) (by omega) (STd_t (r := x126.toInt) px35 (by omega) (by omega) (by omega) (by rw [show x126.toInt = x112.toInt by omega]; omega) (by rw [(bo_st (j := x126.toInt) (bo_len hO34 (by decide) rfl) w132.1 (by omega) (by omega)).1 (by omega)]; decide) (fun k u0 u1 u2 => (bo_st (j := k) (bo_len hO34 (by decide) rfl) w132.1 (by omega) u0).2 (by omega)) (by omega) (by omega) (by omega)) (by omega)
                    · have t143 := eq_no c122
                      refine ur_go rfl ?_
                      refine ur_incV (fun z => [some (.inr (.inr (some 69))), some (.inl a1), some (.inl x29), some (.inl z)]) rfl rfl (fun _ => rfl) (fun x144 e145 => ?_)
                      have t146 := ti_add e145 (by omega) (by omega)
                      refine ur_go rfl ?_
                      have z147 := any_r x29
                      have z148 := any_r x144
                      exact ih33 x29 x144 _ hO34 hu34 (by omega) (STd_o (r := x112.toInt) px35 (fun _ _ _ => rfl) (by omega) (by omega) (by omega) (by omega) (by omega)) (by omega)
          exact L31 _ 0 0 _ hO15 un.rf (by omega) (STd_0 (fun k u0 u1 => px16 k u0 (by omega)) (by omega) (by omega)) (Nat.lt_succ_self _)
        · have t149 := le_no c27
          refine ur_ldA rfl rfl ?_
          refine ur_get rfl hc20 (mf_54 hO15 hc20) ?_
          refine ur_ldI rfl rfl ?_
          refine ur_push rfl ?_
          obtain ⟨xs151, hc150, hn152, he153⟩ := hO15.boo (hO15.fix 104 (by decide) rfl)
          refine ur_astV (W := [104]) (m := 150) rfl hO15 hc150 (by decide) hn152 (by omega) (any_r _) (Or.inr (Or.inr (wid_fix (by decide) (by decide)))) (fun h156 hO156 hv156 d154 hc155 => ?_)
          have hu156 : un [104] h15 h156 := hv156.mono (by decide)
          have w157 : wI h15 h156 104 ((arI h15 104).set (x11 : Int32).toInt.toNat 0) := ⟨by rw [arI_of hc155, arI_of hc150, nb_0], d154⟩
          refine ur_incV (fun z => [some (.inr (.inr (some 69))), some (.inl a1), some (.inl z), none]) rfl rfl (fun _ => rfl) (fun x158 e159 => ?_)
          have t160 := ti_add e159 (by omega) (by omega)
          refine ur_go rfl ?_
          have t161 := fI_of ((d154 _ (by decide)).trans hc20) p22
          have z162 := any_r x158
          exact ih14 x158 _ hO156 (hu15.tr hu156) (by omega) (fun k u0 u1 => by have b := bo_st (j := k) (bo_len hO15 (by decide) rfl) w157.1 (by omega) u0; by_cases e : k = x11.toInt; exact (b.1 (by omega)).trans (by decide); exact (b.2 (by omega)).trans (px16 k u0 (by omega))) (by omega)
    exact L12 _ 0 _ hO0 un.rf (by omega) (fun k u0 u1 => by exfalso; omega) (Nat.lt_succ_self _)
  · have t163 := wi_noL c9 l_m1 l_8
    refine ur_push rfl ?_
    exact ur_ret rfl rfl (hQ _ _ ⟨_, rfl, ⟨fun q => absurd q (by omega), fun _ => by omega⟩⟩ hO0 un.rf)
end ONC
