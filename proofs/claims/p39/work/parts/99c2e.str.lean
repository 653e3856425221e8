/-! STRETCHES of words, printed by program but for its head -/
section STR
/-- whether the fields of five elements from k on are those of a word -/
def FOKd (h : aH) (a : Nat) (k : Int) : Prop := (0 ≤ fl h a (k + 0) ∧ fl h a (k + 0) ≤ 9999) ∧ (0 ≤ fl h a (k + 1) ∧ fl h a (k + 1) ≤ 9999) ∧ (0 ≤ fl h a (k + 2) ∧ fl h a (k + 2) ≤ 9999) ∧ (0 ≤ fl h a (k + 3) ∧ fl h a (k + 3) ≤ 400) ∧ (fl h a (k + 4) = 0 ∨ fl h a (k + 4) = 4 ∨ fl h a (k + 4) = 5)
def GD (h : aH) (p i n w : Int) (j : Nat) : Prop := (j : Int) < n ∧ (0 ≤ i + 5 * (j : Int) ∧ i + 5 * (j : Int) + 5 ≤ gI h 61 p) ∧ FOKd h (63 + p.toNat) (i + 5 * (j : Int)) ∧ w + (j : Int) < 150
def GM (h : aH) (p i n w : Int) (j : Nat) : Prop := (j : Int) < n ∧ (0 ≤ i + 5 * (j : Int) ∧ i + 5 * (j : Int) + 5 ≤ gI h 111 p) ∧ FOKd h 112 (60 * p + (i + 5 * (j : Int))) ∧ w + (j : Int) < 150
def isR (P : Nat → Prop) (x : Int) : Prop := 0 ≤ x ∧ (∀ j : Nat, (j : Int) < x → P j) ∧ ¬ P x.toNat
theorem isR_eq {P P' : Nat → Prop} {x y : Int} (h : isR P x) (g : isR P' y) (e : ∀ j, P j ↔ P' j) : x = y := by
  obtain ⟨h0, h1, h2⟩ := h
  obtain ⟨g0, g1, g2⟩ := g
  rcases Int.lt_trichotomy x y with q | q | q
  · exact absurd ((e _).mpr (g1 x.toNat (by omega))) h2
  · exact q
  · exact absurd ((e _).mp (h1 y.toNat (by omega))) g2
theorem fl_rowk {W : List Nat} {h h' : aH} (hO : OK h) (g : un W h h') {p : Int32} (hp : 0 ≤ p.toInt ∧ p.toInt ≤ 5) (hw : 63 ∉ W ∧ 64 ∉ W ∧ 65 ∉ W ∧ 66 ∉ W ∧ 67 ∉ W ∧ 68 ∉ W) {k k' : Int} (e : k = k') : fl h' (63 + p.toInt.toNat) k = fl h (63 + p.toInt.toNat) k' := by
  subst e
  unfold fl gL
  rcases (show p.toInt = 0 ∨ p.toInt = 1 ∨ p.toInt = 2 ∨ p.toInt = 3 ∨ p.toInt = 4 ∨ p.toInt = 5 by omega) with q | q | q | q | q | q <;> rw [q]
  · rw [show 63 + (0 : Int).toNat = 63 from rfl, arJ_keep (a := 63) (n := 60) hO g (by decide) rfl (by decide) (by decide) hw.1]
  · rw [show 63 + (1 : Int).toNat = 64 from rfl, arJ_keep (a := 64) (n := 60) hO g (by decide) rfl (by decide) (by decide) hw.2.1]
  · rw [show 63 + (2 : Int).toNat = 65 from rfl, arJ_keep (a := 65) (n := 60) hO g (by decide) rfl (by decide) (by decide) hw.2.2.1]
  · rw [show 63 + (3 : Int).toNat = 66 from rfl, arJ_keep (a := 66) (n := 60) hO g (by decide) rfl (by decide) (by decide) hw.2.2.2.1]
  · rw [show 63 + (4 : Int).toNat = 67 from rfl, arJ_keep (a := 67) (n := 60) hO g (by decide) rfl (by decide) (by decide) hw.2.2.2.2.1]
  · rw [show 63 + (5 : Int).toNat = 68 from rfl, arJ_keep (a := 68) (n := 60) hO g (by decide) rfl (by decide) (by decide) hw.2.2.2.2.2]
theorem fl_k112 {W : List Nat} {h h' : aH} (hO : OK h) (g : un W h h') (hw : 112 ∉ W) {k k' : Int} (e : k = k') : fl h' 112 k = fl h 112 k' := by
  subst e
  unfold fl gL
  rw [arJ_keep (a := 112) (n := 360) hO g (by decide) rfl (by decide) (by decide) hw]
set_option maxRecDepth 20000 in
set_option maxHeartbeats 4000000 in
theorem sd_X11_words {d kc ks : Nat} {h0 : aH} {Q : Option aV → aH → Prop} (hO0 : OK h0) (a1 : Int32) (a2 : Int32) (a3 : Int32) (a4 : Int32) (pre0 : NA h0) (hQ : ∀ r h', (∃ x : Int32, r = some (.inl x) ∧ ((¬ ((0 ≤ a1.toInt ∧ a1.toInt ≤ 8) ∧ (0 ≤ a2.toInt ∧ a2.toInt ≤ 5) ∧ 1 ≤ a4.toInt ∧ a4.toInt ≤ 12) → x.toInt = -1 ∧ fO h' 15 1 = fO h0 15 1) ∧ (((0 ≤ a1.toInt ∧ a1.toInt ≤ 8) ∧ (0 ≤ a2.toInt ∧ a2.toInt ≤ 5) ∧ 1 ≤ a4.toInt ∧ a4.toInt ≤ 12) ∧ gI h0 58 a2.toInt = 0 → x.toInt = 0 ∧ fO h' 15 1 = fO h0 15 1) ∧ (((0 ≤ a1.toInt ∧ a1.toInt ≤ 8) ∧ (0 ≤ a2.toInt ∧ a2.toInt ≤ 5) ∧ 1 ≤ a4.toInt ∧ a4.toInt ≤ 12) ∧ gI h0 58 a2.toInt ≠ 0 ∧ ¬ ((0 ≤ a2.toInt ∧ a2.toInt ≤ 5) ∧ gI h0 58 a2.toInt = 2 ∧ gI h0 60 a2.toInt = 1) → x.toInt = -12 ∧ fO h' 15 1 = fO h0 15 1) ∧ (((0 ≤ a1.toInt ∧ a1.toInt ≤ 8) ∧ (0 ≤ a2.toInt ∧ a2.toInt ≤ 5) ∧ 1 ≤ a4.toInt ∧ a4.toInt ≤ 12) ∧ ((0 ≤ a2.toInt ∧ a2.toInt ≤ 5) ∧ gI h0 58 a2.toInt = 2 ∧ gI h0 60 a2.toInt = 1) → isR (GD h0 a2.toInt a3.toInt a4.toInt (fO h0 15 1)) x.toInt ∧ fO h' 15 1 = fO h0 15 1 + x.toInt))) → OK h' → un [16, 45, 46, 2501, 9010, 22005, 22006, 22007, 22008, 22009, 22010, 22011, 22012] h0 h' → (nW h' ≤ nW h0 + 12) → (NA h') → Q r h') : uCall Mt (d + 8) 136 [(.inr (.inr (some 0))), (.inl a1), (.inl a2), (.inl a3), (.inl a4)] h0 kc ks Q := by
  have l_m12 : ((-12) : Int32).toInt = -12 := by decide
  have l_m1 : ((-1) : Int32).toInt = -1 := by decide
  have l_0 : ((0) : Int32).toInt = 0 := by decide
  have l_1 : ((1) : Int32).toInt = 1 := by decide
  have l_5 : ((5) : Int32).toInt = 5 := by decide
  have l_8 : ((8) : Int32).toInt = 8 := by decide
  have l_12 : ((12) : Int32).toInt = 12 := by decide
  refine uc_ink [some (.inr (.inr (some 0))), some (.inl a1), some (.inl a2), some (.inl a3), some (.inl a4), none, none] mt_136 (Nat.le_of_ble_eq_true rfl) rfl ?_
  obtain ⟨f2, f3, f4, f5, hc1, k6⟩ := ok_15 hO0
  have t7 := fO_of (k := 1) hc1 rfl
  have t8 := gI61 hO0 a2.toInt
  refine ur_ldI rfl rfl ?_
  refine ur_callv rfl rfl (Nat.le_of_ble_eq_true rfl) (Nat.le_of_ble_eq_true rfl) rfl (sp_isPpl _ _) ?_
  refine ur_eqB rfl (fun c11 => ?_) (fun c11 => ?_)
  · have t12 := wi_noL c11 l_0 l_8
    refine ur_push rfl ?_
    exact ur_ret rfl rfl (hQ _ _ ⟨_, rfl, ⟨fun q => by omega, fun q => by omega, fun q => by omega, fun q => by exfalso; omega⟩⟩ hO0 un.rf (by omega) pre0)
  · have t13 := wi_toL c11 l_0 l_8
    refine ur_ldA rfl rfl ?_
    obtain ⟨hc14, k15⟩ := ok_0 hO0
    refine ur_get rfl hc14 rfl ?_
    refine ur_ldI rfl rfl ?_
    obtain ⟨hc16, k17⟩ := ok_57 hO0
    refine ur_callv rfl rfl (Nat.le_of_ble_eq_true rfl) (Nat.le_of_ble_eq_true rfl) (rcv_of hc16) (sp_page _ _) ?_
    refine ur_eqB rfl (fun c20 => ?_) (fun c20 => ?_)
    · have t21 := wi_noL c20 l_0 l_5
      refine ur_push rfl ?_
      exact ur_ret rfl rfl (hQ _ _ ⟨_, rfl, ⟨fun q => by omega, fun q => by omega, fun q => by omega, fun q => by exfalso; omega⟩⟩ hO0 un.rf (by omega) pre0)
    · have t22 := wi_toL c20 l_0 l_5
      refine ur_ldI rfl rfl ?_
      refine ur_push rfl ?_
      refine ur_push rfl ?_
      refine ur_callv rfl rfl (Nat.le_of_ble_eq_true rfl) (Nat.le_of_ble_eq_true rfl) rfl (sp_within _ _ _ _ _) ?_
      refine ur_neB rfl (fun c25 => ?_) (fun c25 => ?_)
      · have t26 := wi_toL c25 l_1 l_12
        refine ur_ldA rfl rfl ?_
        refine ur_get rfl hc14 rfl ?_
        refine ur_ldI rfl rfl ?_
        refine ur_inl rfl (rcv_of hc16) (Nat.le_of_ble_eq_true rfl) (Nat.le_of_ble_eq_true rfl) (sd_X4_isEmpty hO0 _ (fun w27 hr28 => ?_))
        obtain ⟨b29, rfl, t30, t31⟩ := hr28
        show uRun _ (uCall Mt _) _ 39 (_, [(.inl (bi b29))], _, _, _)
        refine ur_eqB rfl (fun c32 => ?_) (fun c32 => ?_)
        · have t33 := t31 c32
          clear t30 t31
          refine ur_ldA rfl rfl ?_
          refine ur_get rfl hc14 rfl ?_
          refine ur_ldI rfl rfl ?_
          refine ur_inl rfl (rcv_of hc16) (Nat.le_of_ble_eq_true rfl) (Nat.le_of_ble_eq_true rfl) (sd_X4_holdsShorts hO0 _ (fun w34 hr35 => ?_))
          obtain ⟨b36, rfl, t37, t38⟩ := hr35
          show uRun _ (uCall Mt _) _ 52 (_, [(.inl (bi b36))], _, _, _)
          refine ur_neB rfl (fun c39 => ?_) (fun c39 => ?_)
          · have t40 := t37 c39
            clear t37 t38
            refine ur_ldI rfl rfl ?_
            refine ur_if1 rfl (fun c41 => ?_) (fun c41 => ?_)
            · have t42 := le_to c41
              refine ur_push rfl ?_
              refine ur_svIk [some (.inr (.inr (some 0))), some (.inl a1), some (.inl a2), some (.inl a3), some (.inl a4), some (.inl 0), none] rfl rfl ?_
              refine ur_ldI rfl rfl ?_
              refine ur_svIk [some (.inr (.inr (some 0))), some (.inl a1), some (.inl a2), some (.inl a3), some (.inl a4), some (.inl 0), some (.inl a3)] rfl rfl ?_
              have L45 : ∀ (m46 : Nat) (x43 : Int32) (x44 : Int32) (h48 : aH) , OK h48 → un [16, 45, 46, 2501, 9010, 22005, 22006, 22007, 22008, 22009, 22010, 22011, 22012] h0 h48 → ((0 ≤ x43.toInt ∧ x43.toInt ≤ 12) ∧ (0 ≤ x44.toInt ∧ x44.toInt ≤ 2147483647) ∧ nW h48 ≤ nW h0 + x43.toInt ∧ fO h48 15 1 = fO h0 15 1 + x43.toInt ∧ x44.toInt = a3.toInt + 5 * x43.toInt) → (NA h48) → (∀ j : Nat, (j : Int) < x43.toInt → GD h0 a2.toInt a3.toInt a4.toInt (fO h0 15 1) j) → ((2147483648 - x43.toInt).toNat) < m46 → uRun oX11_words (uCall Mt (d + 7)) Q 70 ([some (.inr (.inr (some 0))), some (.inl a1), some (.inl a2), some (.inl a3), some (.inl a4), some (.inl x43), some (.inl x44)], [], h48, kc, ks) := by
                intro m46
                induction m46 with
                | zero => intro x43 x44 h48 hO48 hu48 iv51 px49 px50 mm52; omega
                | succ m46 ih47 =>
                  intro x43 x44 h48 hO48 hu48 iv51 px49 px50 mm52
                  refine ur_ldI rfl rfl ?_
                  refine ur_ldI rfl rfl ?_
                  have z53 := any_r x43
                  have z54 := any_r a4
                  refine ur_if2 rfl (fun c55 => ?_) (fun c55 => ?_)
                  · have t56 := le_to c55
                    refine ur_ldI rfl rfl ?_
                    obtain ⟨f58, f59, f60, f61, hc57, k62⟩ := ok_15 hO48
                    have t63 := fO_of (k := 1) hc57 rfl
                    exact ur_ret rfl rfl (hQ _ _ ⟨_, rfl, ⟨fun q => absurd (by omega) q, fun q => by exfalso; omega, fun q => by exfalso; omega, fun _ => ⟨⟨by omega, px50, fun q => by unfold GD FOKd at q; rw [show ((x43.toInt.toNat : Nat) : Int) = x43.toInt by omega] at q; omega⟩, by omega⟩⟩⟩ hO48 hu48 (by omega) px49)
                  · have t64 := le_no c55
                    have t65 : gI h48 58 a2.toInt = gI h0 58 a2.toInt := gI_keep (a := 58) (kd := 0) (n := 6) hO0 hu48 _ (by decide) rfl (by decide) rfl (by decide) (by decide)
                    have t66 : gI h48 60 a2.toInt = gI h0 60 a2.toInt := gI_keep (a := 60) (kd := 0) (n := 6) hO0 hu48 _ (by decide) rfl (by decide) rfl (by decide) (by decide)
                    have t67 : gI h48 61 a2.toInt = gI h0 61 a2.toInt := gI_keep (a := 61) (kd := 0) (n := 6) hO0 hu48 _ (by decide) rfl (by decide) rfl (by decide) (by decide)
                    refine ur_ldA rfl rfl ?_
                    refine ur_get rfl (hu48.ko (n := 8) hc14 rfl (wid_f (by decide)) (by decide)) rfl ?_
                    refine ur_ldI rfl rfl ?_
                    refine ur_ldI rfl rfl ?_
                    refine ur_inl rfl (rcv_of (hu48.ko (n := 5) hc16 rfl (wid_f (by decide)) (by decide))) (Nat.le_of_ble_eq_true rfl) (Nat.le_of_ble_eq_true rfl) (sd_X4_hasFiveFrom hO48 _ _ (fun w68 hr69 => ?_))
                    obtain ⟨b70, rfl, t71, t72⟩ := hr69
                    show uRun _ (uCall Mt _) _ 87 (_, [(.inl (bi b70))], _, _, _)
                    refine ur_eqB rfl (fun c73 => ?_) (fun c73 => ?_)
                    · have t74 := t72 c73
                      clear t71 t72
                      refine ur_ldI rfl rfl ?_
                      obtain ⟨f76, f77, f78, f79, hc75, k80⟩ := ok_15 hO48
                      have t81 := fO_of (k := 1) hc75 rfl
                      exact ur_ret rfl rfl (hQ _ _ ⟨_, rfl, ⟨fun q => absurd (by omega) q, fun q => by exfalso; omega, fun q => by exfalso; omega, fun _ => ⟨⟨by omega, px50, fun q => by unfold GD FOKd at q; rw [show ((x43.toInt.toNat : Nat) : Int) = x43.toInt by omega] at q; omega⟩, by omega⟩⟩⟩ hO48 hu48 (by omega) px49)
                    · have t82 := t71 c73
                      clear t71 t72
                      have t83 : fl h48 (63 + a2.toInt.toNat) (x44.toInt + 0) = fl h0 (63 + a2.toInt.toNat) (a3.toInt + 5 * x43.toInt + 0) := fl_rowk hO0 hu48 (by omega) (by decide) (by omega)
                      have t84 : fl h48 (63 + a2.toInt.toNat) (x44.toInt + 1) = fl h0 (63 + a2.toInt.toNat) (a3.toInt + 5 * x43.toInt + 1) := fl_rowk hO0 hu48 (by omega) (by decide) (by omega)
                      have t85 : fl h48 (63 + a2.toInt.toNat) (x44.toInt + 2) = fl h0 (63 + a2.toInt.toNat) (a3.toInt + 5 * x43.toInt + 2) := fl_rowk hO0 hu48 (by omega) (by decide) (by omega)
                      have t86 : fl h48 (63 + a2.toInt.toNat) (x44.toInt + 3) = fl h0 (63 + a2.toInt.toNat) (a3.toInt + 5 * x43.toInt + 3) := fl_rowk hO0 hu48 (by omega) (by decide) (by omega)
                      have t87 : fl h48 (63 + a2.toInt.toNat) (x44.toInt + 4) = fl h0 (63 + a2.toInt.toNat) (a3.toInt + 5 * x43.toInt + 4) := fl_rowk hO0 hu48 (by omega) (by decide) (by omega)
                      refine ur_ldA rfl rfl ?_
                      refine ur_ldI rfl rfl ?_
                      refine ur_ldI rfl rfl ?_
                      refine ur_ldI rfl rfl ?_
                      obtain ⟨f89, f90, f91, f92, hc88, k93⟩ := ok_15 hO48
                      have t94 := fO_of (k := 1) hc88 rfl
                      refine ur_inl rfl (rcv_of (hu48.ko (n := 8) hc14 rfl (wid_f (by decide)) (by decide))) (Nat.le_of_ble_eq_true rfl) (Nat.le_of_ble_eq_true rfl) (sd_X11_addWordFromRow hO48 _ (by show 0 ≤ a1.toInt ∧ a1.toInt ≤ 8; omega) _ _ px49 (by omega) (fun w95 h99 hr96 hO99 hv99 hp97 hp98 => ?_))
                      have hu99 := hv99
                      obtain ⟨b100, rfl, t101, t102⟩ := hr96
                      show uRun _ (uCall Mt _) _ 98 (_, [(.inl (bi b100))], _, _, _)
                      obtain ⟨f104, f105, f106, f107, hc103, k108⟩ := ok_15 hO99
                      have t109 := fO_of (k := 1) hc103 rfl
                      refine ur_neB rfl (fun c110 => ?_) (fun c110 => ?_)
                      · have t111 := t101 c110
                        clear t101 t102
                        refine ur_incV (fun z => [some (.inr (.inr (some 0))), some (.inl a1), some (.inl a2), some (.inl a3), some (.inl a4), some (.inl z), some (.inl x44)]) rfl rfl (fun _ => rfl) (fun x112 e113 => ?_)
                        have t114 := ti_add e113 (by omega) (by omega)
                        have t115 : 0 ≤ x44.toInt ∧ x44.toInt ≤ 55 := by omega
                        refine ur_incV (fun z => [some (.inr (.inr (some 0))), some (.inl a1), some (.inl a2), some (.inl a3), some (.inl a4), some (.inl x112), some (.inl z)]) rfl rfl (fun _ => rfl) (fun x116 e117 => ?_)
                        have z118 := any_r x44
                        have t119 := ti_add e117 (by omega) (by omega)
                        refine ur_go rfl ?_
                        have z120 := any_r x112
                        have z121 := any_r x116
                        exact ih47 x112 x116 _ hO99 (hu48.tr hu99) (by omega) hp98 (fun j hj => by by_cases q : (j : Int) < x43.toInt; exact px50 j q; have e : (j : Int) = x43.toInt := (by omega); unfold GD FOKd; rw [e]; omega) (by omega)
                      · have t122 := t102 c110
                        clear t101 t102
                        refine ur_go rfl ?_
                        refine ur_ldI rfl rfl ?_
                        exact ur_ret rfl rfl (hQ _ _ ⟨_, rfl, ⟨fun q => absurd (by omega) q, fun q => by exfalso; omega, fun q => by exfalso; omega, fun _ => ⟨⟨by omega, px50, fun q => by unfold GD FOKd at q; rw [show ((x43.toInt.toNat : Nat) : Int) = x43.toInt by omega] at q; omega⟩, by omega⟩⟩⟩ hO99 (hu48.tr hu99) (by omega) hp98)
              have z123 := any_r a3
              exact L45 _ 0 a3 _ hO0 un.rf (by omega) pre0 (fun j hj => by exfalso; omega) (Nat.lt_succ_self _)
            · have t124 := le_no c41
              refine ur_push rfl ?_
              exact ur_ret rfl rfl (hQ _ _ ⟨_, rfl, ⟨fun q => absurd (by omega) q, fun q => by exfalso; omega, fun q => by exfalso; omega, fun _ => ⟨⟨by omega, fun j hj => by exfalso; omega, fun q => by unfold GD at q; rw [show ((((0 : Int32).toInt.toNat : Nat) : Int)) = 0 by omega] at q; omega⟩, by omega⟩⟩⟩ hO0 un.rf (by omega) pre0)
          · have t125 := t38 c39
            clear t37 t38
            refine ur_push rfl ?_
            exact ur_ret rfl rfl (hQ _ _ ⟨_, rfl, ⟨fun q => by omega, fun q => by omega, fun q => by omega, fun q => by exfalso; omega⟩⟩ hO0 un.rf (by omega) pre0)
        · have t126 := t30 c32
          clear t30 t31
          refine ur_push rfl ?_
          exact ur_ret rfl rfl (hQ _ _ ⟨_, rfl, ⟨fun q => by omega, fun q => by omega, fun q => by omega, fun q => by exfalso; omega⟩⟩ hO0 un.rf (by omega) pre0)
      · have t127 := wi_noL c25 l_1 l_12
        refine ur_push rfl ?_
        exact ur_ret rfl rfl (hQ _ _ ⟨_, rfl, ⟨fun q => by omega, fun q => by omega, fun q => by omega, fun q => by exfalso; omega⟩⟩ hO0 un.rf (by omega) pre0)
end STR
