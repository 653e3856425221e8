/-! SPANS OF WORDS, the reference; printed by program but for its head -/
section T10S
theorem rck_t2 {ls : List (List (Int × Int) × List (Int × Int))} {y m d r v : Int32} (hn : ls ≠ []) (hv : v = tvl (nuY y m d r) ls) : rck ls y m d r = hldI v.toInt := by
  unfold rck
  rw [if_neg hn, hv]
theorem rck_n2 {ls : List (List (Int × Int) × List (Int × Int))} {y m d r v a b c : Int32} (hn : ls = []) (e1 : 360 * y = a) (e2 : 30 * m = b) (e3 : a + b = c) (e4 : c + d = v) : rck ls y m d r = hldI v.toInt := by
  unfold rck
  rw [if_pos hn, ← e4, ← e3, ← e2, ← e1]
/-- slacks of the words that are there, on how many days a reign begins -/
def SLm (h : aH) : Prop := (∀ i : Int, 0 ≤ i → i < fI h 38 → 0 ≤ gI h 102 i ∧ gI h 102 i ≤ 400) ∧ ∀ r : Int, 0 ≤ r → r ≤ 19 → 0 ≤ gI h 91 r ∧ gI h 91 r ≤ 2
theorem SLm.un {W : List Nat} {h h' : aH} (g : SLm h) (hO : OK h) (hO' : OK h') (u : un W h h') (w : 102 ∉ W ∧ 91 ∉ W) (w2 : 7938 ∉ W) : SLm h' := ⟨fun i i0 i1 => by
  rw [fI_keep (k := 38) hO hO' u rfl w2] at i1
  rw [gI_keep (a := 102) (kd := 0) (n := 150) hO u _ (by decide) rfl (by decide) rfl (by decide) w.1]
  exact g.1 i i0 i1, fun r r0 r1 => by
  rw [gI_keep (a := 91) (kd := 0) (n := 20) hO u _ (by decide) rfl (by decide) rfl (by decide) w.2]
  exact g.2 r r0 r1⟩
/-- what is remembered of a reign, for a span -/
def FR (h : aH) (r i : Int) : Int32 := if gI h 101 r < 0 then 0 else if i = 0 then gV h 90 (gI h 101 r) else gV h 92 (gI h 101 r)
def VM (h : aH) (M : Nat → List (List (Int × Int) × List (Int × Int))) (r i : Int) : Int := rck (M (gI h 97 r).toNat) (gV h 98 r) (gV h 99 r) (gV h 100 r) (FR h r i)
def nM (h : aH) (r : Int) : Int := if gI h 101 r < 0 then 1 else gI h 91 (gI h 101 r)
theorem nM_r {h : aH} (hO : OK h) (g : SLm h) (r : Int) : 0 ≤ nM h r ∧ nM h r ≤ 2 := by
  have k : -1 ≤ gI h 101 r ∧ gI h 101 r ≤ 19 := gI_rg (a := 101) (n := 150) hO (by decide) rfl (by decide) _
  unfold nM
  by_cases q : gI h 101 r < 0
  · rw [if_pos q]
    omega
  · rw [if_neg q]
    exact g.2 _ (by omega) k.2
theorem VM_c {h h' : aH} (hO : OK h) (g : un [] h h') {M : Nat → List (List (Int × Int) × List (Int × Int))} {r i : Int} : VM h' M r i = VM h M r i := by
  have k : ∀ a n : Nat, a < 114 → T0.getD a (999, 0) = (0, n) → scA a = false → (0, n) ∉ meM → arI h' a = arI h a := fun a n h1 h2 h3 h4 => arI_keep (a := a) hO g h1 h2 (by decide) h3 h4 (by simp)
  have e : ∀ a n : Nat, a < 114 → T0.getD a (999, 0) = (0, n) → scA a = false → (0, n) ∉ meM → ∀ j, gI h' a j = gI h a j := fun a n h1 h2 h3 h4 j => by unfold gI; rw [k a n h1 h2 h3 h4]
  unfold VM FR
  rw [e 97 150 (by decide) rfl rfl (by decide), gV_e (k 98 150 (by decide) rfl rfl (by decide)), gV_e (k 99 150 (by decide) rfl rfl (by decide)), gV_e (k 100 150 (by decide) rfl rfl (by decide)), e 101 150 (by decide) rfl rfl (by decide), gV_e (k 90 20 (by decide) rfl rfl (by decide)), gV_e (k 92 20 (by decide) rfl rfl (by decide))]
theorem nM_c {h h' : aH} (hO : OK h) (g : un [] h h') {r : Int} : nM h' r = nM h r := by
  unfold nM
  rw [gI_keep (a := 101) (kd := 0) (n := 150) hO g _ (by decide) rfl (by decide) rfl (by decide) (by decide), gI_keep (a := 91) (kd := 0) (n := 20) hO g _ (by decide) rfl (by decide) rfl (by decide) (by decide)]
def RXF (h : aH) (M : Nat → List (List (Int × Int) × List (Int × Int))) : Prop := ∀ n, n ≤ 8 → RLn h (n + 2) (M n) ∧ ∀ l ∈ M n, lnG l
theorem RXF.un {h h' : aH} {M : Nat → List (List (Int × Int) × List (Int × Int))} (H : RXF h M) (hO : OK h) (g : un [] h h') : RXF h' M := fun n hn => ⟨(H n hn).1.keep (KN.un hO g (by decide) (by decide) (by decide) (by decide) (by decide)) (by omega), (H n hn).2⟩
theorem zf_s {h h' : aH} {i i' : Int} {j : Nat} {x : Int32} (H : ∀ k : Nat, (k : Int) < i → (arI h 88).getD k 0 = 0) (e : arI h' 88 = (arI h 88).set j x) (c : i' = i + 1 ∧ (j : Int) = i ∧ x = 0) : ∀ k : Nat, (k : Int) < i' → (arI h' 88).getD k 0 = 0 := fun k hk => by
  obtain ⟨c1, c2, rfl⟩ := c
  rw [e]
  by_cases q : j = k
  · subst q
    rw [List.getD_eq_getElem?_getD]
    by_cases b : j < (arI h 88).length
    · rw [List.getElem?_set_self b]
      rfl
    · rw [List.getElem?_eq_none (by rw [List.length_set]; omega)]
      rfl
  · have g := H k (by omega)
    rw [List.getD_eq_getElem?_getD] at g ⊢
    rw [List.getElem?_set_ne q]
    exact g
theorem nuM_Y {h hA : aH} (hO : OK hA) {y m d r : Int32} (z : ∀ k : Nat, (k : Int) < 10 → (arI hA 88).getD k 0 = 0) (e : arI h 88 = ((((arI hA 88).set 7 y).set 8 m).set 5 d).set 9 r) : nuM h = nuY y m d r := by
  obtain ⟨L, hc, hx, -⟩ := hO.int (hO.fix 88 (by decide) rfl)
  have eL := arI_of hc
  rw [eL] at e z
  funext j
  unfold nuM nuY
  by_cases a7 : j = 7
  · subst a7
    rw [if_pos rfl, e]
    simp [List.getElem?_set, hx]
  rw [if_neg a7]
  by_cases a8 : j = 8
  · subst a8
    rw [if_pos rfl, e]
    simp [List.getElem?_set, hx]
  rw [if_neg a8]
  by_cases a5 : j = 5
  · subst a5
    rw [if_pos rfl, e]
    simp [List.getElem?_set, hx]
  rw [if_neg a5]
  by_cases a9 : j = 9
  · subst a9
    rw [if_pos rfl, e]
    simp [List.getElem?_set, hx]
  rw [if_neg a9, e]
  by_cases big : 10 ≤ j.toNat
  · rw [List.getD_eq_getElem?_getD, List.getElem?_eq_none (by simp only [List.length_set]; omega)]
    rfl
  · by_cases n9 : j.toNat = 9
    · omega
    · have g := z j.toNat (by omega)
      by_cases neg : j < 0
      · have q : j.toNat = 0 := by omega
        rw [q] at g ⊢
        rw [List.getD_eq_getElem?_getD] at g ⊢
        rw [List.getElem?_set_ne (by decide), List.getElem?_set_ne (by decide), List.getElem?_set_ne (by decide), List.getElem?_set_ne (by decide)]
        exact g
      · rw [List.getD_eq_getElem?_getD] at g ⊢
        rw [List.getElem?_set_ne (by omega), List.getElem?_set_ne (by omega), List.getElem?_set_ne (by omega), List.getElem?_set_ne (by omega)]
        exact g
set_option maxRecDepth 20000 in
set_option maxHeartbeats 4000000 in
theorem st_X12_findSpan {d kc ks : Nat} {h0 : aH} {Q : Option aV → aH → Prop} {M : Nat → List (List (Int × Int) × List (Int × Int))} (hO0 : OK h0) (hX0 : SX h0) (a1 : Int32) (b1 : 0 ≤ a1.toInt ∧ a1.toInt ≤ 149) (a2 : Int32) (a3 : Int32) (b3 : -400 ≤ a3.toInt ∧ a3.toInt ≤ 400) (pre0 : a1.toInt < fI h0 38) (pre1 : RXF h0 M) (pre2 : SLm h0) (hQ : ∀ r h', (∃ x : Int32, r = some (.inl x) ∧ ((fI h' 50 = spF ((VM h0 M (rt h0 a1.toInt) a2.toInt) + a3.toInt) (gI h0 102 (rt h0 a1.toInt)) ∧ fI h' 51 = spT ((VM h0 M (rt h0 a1.toInt) a2.toInt) + a3.toInt) (gI h0 102 (rt h0 a1.toInt))) ∧ (x.toInt = 1 ∧ fI h' 50 ≤ fI h' 51 ∨ x.toInt = 0 ∧ fI h' 51 < fI h' 50) ∧ 0 ≤ fI h' 50 ∧ fI h' 51 ≤ 999999)) → OK h' → un [] h0 h' → Q r h') : uCall Mt (d + 4) 244 [(.inr (.inr (some 69))), (.inl a1), (.inl a2), (.inl a3)] h0 kc ks Q := by
  have l_m2000000 : ((-2000000) : Int32).toInt = -2000000 := by decide
  have l_0 : ((0) : Int32).toInt = 0 := by decide
  have l_1 : ((1) : Int32).toInt = 1 := by decide
  have l_5 : ((5) : Int32).toInt = 5 := by decide
  have l_7 : ((7) : Int32).toInt = 7 := by decide
  have l_8 : ((8) : Int32).toInt = 8 := by decide
  have l_9 : ((9) : Int32).toInt = 9 := by decide
  have l_10 : ((10) : Int32).toInt = 10 := by decide
  have l_30 : ((30) : Int32).toInt = 30 := by decide
  have l_360 : ((360) : Int32).toInt = 360 := by decide
  have l_999999 : ((999999) : Int32).toInt = 999999 := by decide
  have l_2000000 : ((2000000) : Int32).toInt = 2000000 := by decide
  refine uc_ink [some (.inr (.inr (some 69))), some (.inl a1), some (.inl a2), some (.inl a3), none, none, none, none] mt_244 (Nat.le_of_ble_eq_true rfl) rfl ?_
  obtain ⟨fs1, hc2⟩ := hO0.mod
  obtain ⟨f3, p4, t5⟩ := mf_38 hO0 hc2
  have t6 := fI_of hc2 p4
  obtain ⟨f7, p8⟩ := mf_50 hO0 hc2
  have t9 := fI_of hc2 p8
  obtain ⟨f10, p11⟩ := mf_51 hO0 hc2
  have t12 := fI_of hc2 p11
  refine ur_ldA rfl rfl ?_
  refine ur_ldI rfl rfl ?_
  refine ur_inl rfl (rcv_of hc2) (Nat.le_of_ble_eq_true rfl) (Nat.le_of_ble_eq_true rfl) (sd_X12_rootOf hO0 hX0 _ (by show 0 ≤ a1.toInt ∧ a1.toInt ≤ 149; omega) (by omega) (fun w13 hr14 => ?_))
  obtain ⟨x15, rfl, t16⟩ := hr14
  show uRun _ (uCall Mt _) _ 5 (_, [(.inl x15)], _, _, _)
  refine ur_svIk [some (.inr (.inr (some 69))), some (.inl a1), some (.inl a2), some (.inl a3), some (.inl x15), none, none, none] rfl rfl ?_
  refine ur_push rfl ?_
  refine ur_ldA rfl rfl ?_
  refine ur_get rfl hc2 (mf_40 hO0 hc2) ?_
  refine ur_ldI rfl rfl ?_
  obtain ⟨xs18, hc17, hn19, he20⟩ := hO0.int (hO0.fix 97 (by decide) rfl)
  refine ur_aldV rfl hc17 hn19 (by omega) (fun x21 hx22 => ?_)
  have t23 := gI_of (j := x15) hc17 hx22
  have t24 : 0 ≤ x21.toInt ∧ x21.toInt ≤ 8 := he20 _ _ hx22
  have e25 : gV h0 97 (rt h0 a1.toInt) = x21 := gV_of hc17 hx22 (by omega)
  have t26 : gI h0 97 (rt h0 a1.toInt) = x21.toInt := congrArg Int32.toInt e25
  refine ur_binV rfl (fun x27 e28 => ?_)
  have z29 := any_r x21
  have t30 := ti_add e28 (by omega) (by omega)
  refine ur_inl rfl rfl (Nat.le_of_ble_eq_true rfl) (Nat.le_of_ble_eq_true rfl) (sg_placeFor _ (by show 0 ≤ x27.toInt ∧ x27.toInt ≤ 18; omega) (fun w31 hr32 => ?_))
  obtain ⟨x33, rfl, t34⟩ := hr32
  show uRun _ (uCall Mt _) _ 20 (_, [(.inl x33)], _, _, _)
  refine ur_svIk [some (.inr (.inr (some 69))), some (.inl a1), some (.inl a2), some (.inl a3), some (.inl x15), some (.inl x33), none, none] rfl rfl ?_
  refine ur_push rfl ?_
  refine ur_ldA rfl rfl ?_
  refine ur_get rfl hc2 (mf_41 hO0 hc2) ?_
  refine ur_ldI rfl rfl ?_
  obtain ⟨xs36, hc35, hn37, he38⟩ := hO0.int (hO0.fix 98 (by decide) rfl)
  refine ur_aldV rfl hc35 hn37 (by omega) (fun x39 hx40 => ?_)
  have t41 := gI_of (j := x15) hc35 hx40
  have e42 : gV h0 98 (rt h0 a1.toInt) = x39 := gV_of hc35 hx40 (by omega)
  have t43 : gI h0 98 (rt h0 a1.toInt) = x39.toInt := congrArg Int32.toInt e42
  refine ur_binV rfl (fun x44 e45 => ?_)
  have z46 := any_r x39
  refine ur_push rfl ?_
  refine ur_ldA rfl rfl ?_
  refine ur_get rfl hc2 (mf_42 hO0 hc2) ?_
  refine ur_ldI rfl rfl ?_
  obtain ⟨xs48, hc47, hn49, he50⟩ := hO0.int (hO0.fix 99 (by decide) rfl)
  refine ur_aldV rfl hc47 hn49 (by omega) (fun x51 hx52 => ?_)
  have t53 := gI_of (j := x15) hc47 hx52
  have e54 : gV h0 99 (rt h0 a1.toInt) = x51 := gV_of hc47 hx52 (by omega)
  have t55 : gI h0 99 (rt h0 a1.toInt) = x51.toInt := congrArg Int32.toInt e54
  refine ur_binV rfl (fun x56 e57 => ?_)
  have z58 := any_r x51
  refine ur_binV rfl (fun x59 e60 => ?_)
  have z61 := any_r x44
  have z62 := any_r x56
  refine ur_ldA rfl rfl ?_
  refine ur_get rfl hc2 (mf_43 hO0 hc2) ?_
  refine ur_ldI rfl rfl ?_
  obtain ⟨xs64, hc63, hn65, he66⟩ := hO0.int (hO0.fix 100 (by decide) rfl)
  refine ur_aldV rfl hc63 hn65 (by omega) (fun x67 hx68 => ?_)
  have t69 := gI_of (j := x15) hc63 hx68
  have e70 : gV h0 100 (rt h0 a1.toInt) = x67 := gV_of hc63 hx68 (by omega)
  have t71 : gI h0 100 (rt h0 a1.toInt) = x67.toInt := congrArg Int32.toInt e70
  refine ur_binV rfl (fun x72 e73 => ?_)
  have z74 := any_r x59
  have z75 := any_r x67
  refine ur_svIk [some (.inr (.inr (some 69))), some (.inl a1), some (.inl a2), some (.inl a3), some (.inl x15), some (.inl x33), some (.inl x72), none] rfl rfl ?_
  have J76 : ∀ (x77 : Int32) (u80 : Option aV) (h79 : aH), OK h79 → un [] h0 h79 → (-2147483648 ≤ x77.toInt ∧ x77.toInt ≤ 2147483647) → ((VM h0 M (rt h0 a1.toInt) a2.toInt) = hldI x77.toInt) → uRun oX12_findSpan (uCall Mt (d + 3)) Q 192 ([some (.inr (.inr (some 69))), some (.inl a1), some (.inl a2), some (.inl a3), some (.inl x15), some (.inl x33), some (.inl x77), u80], [], h79, kc, ks) := by
    intro x77 u80 h79 hO79 hu79 t78 cp81
    have z82 := any_r x77
    obtain ⟨fs85, hc86⟩ := hO79.mod
    obtain ⟨f87, p88, t89⟩ := mf_38 hO79 hc86
    have t90 := fI_of hc86 p88
    obtain ⟨f91, p92⟩ := mf_50 hO79 hc86
    have t93 := fI_of hc86 p92
    obtain ⟨f94, p95⟩ := mf_51 hO79 hc86
    have t96 := fI_of hc86 p95
    have t97 := fI_keep (k := 38) hO0 hO79 hu79 rfl (by decide)
    have J83 : ∀ (x84 : Int32), (-2000000 ≤ x84.toInt ∧ x84.toInt ≤ 2000000) → (x84.toInt = (VM h0 M (rt h0 a1.toInt) a2.toInt)) → uRun oX12_findSpan (uCall Mt (d + 3)) Q 222 ([some (.inr (.inr (some 69))), some (.inl a1), some (.inl a2), some (.inl a3), some (.inl x15), some (.inl x33), some (.inl x77), u80], [(.inl x84)], h79, kc, ks) := by
      intro x84 t98 cp99
      refine ur_ldI rfl rfl ?_
      refine ur_binV rfl (fun x100 e101 => ?_)
      have z102 := any_r a3
      have t103 := ti_add e101 (by omega) (by omega)
      refine ur_svIk [some (.inr (.inr (some 69))), some (.inl a1), some (.inl a2), some (.inl a3), some (.inl x15), some (.inl x33), some (.inl x100), u80] rfl rfl ?_
      refine ur_ldA rfl rfl ?_
      have J104 : ∀ (x105 : Int32), (0 ≤ x105.toInt ∧ x105.toInt ≤ 2147483647) → (x105.toInt = spF ((VM h0 M (rt h0 a1.toInt) a2.toInt) + a3.toInt) (gI h0 102 (rt h0 a1.toInt))) → uRun oX12_findSpan (uCall Mt (d + 3)) Q 254 ([some (.inr (.inr (some 69))), some (.inl a1), some (.inl a2), some (.inl a3), some (.inl x15), some (.inl x33), some (.inl x100), u80], [(.inl x105), (.inr (.inr (some 69)))], h79, kc, ks) := by
        intro x105 t106 cp107
        have z108 := any_r x105
        refine ur_putM (W := []) rfl hO79 hc86 (by decide) rfl (ms_50 (hO79.msh hc86)) (Or.inl rfl) (fun h110 hO110 hu110 d109 hc111 => ?_)
        have t112 := fI_of hc111 (gs_eq p92)
        have t113 := fI_of hc111 (gs_ne p95 (by decide))
        refine ur_ldA rfl rfl ?_
        have t116 := fI_of hc111 (gs_ne p88 (by decide))
        have t117 := fI_keep (k := 38) hO0 hO110 (hu79.tr hu110) rfl (by decide)
        have J114 : ∀ (x115 : Int32), (-2147483648 ≤ x115.toInt ∧ x115.toInt ≤ 999999) → (x115.toInt = spT ((VM h0 M (rt h0 a1.toInt) a2.toInt) + a3.toInt) (gI h0 102 (rt h0 a1.toInt))) → uRun oX12_findSpan (uCall Mt (d + 3)) Q 288 ([some (.inr (.inr (some 69))), some (.inl a1), some (.inl a2), some (.inl a3), some (.inl x15), some (.inl x33), some (.inl x100), u80], [(.inl x115), (.inr (.inr (some 69)))], h110, kc, ks) := by
          intro x115 t118 cp119
          have z120 := any_r x115
          refine ur_putM (W := []) rfl hO110 hc111 (by decide) rfl (ms_51 (hO110.msh hc111)) (Or.inl rfl) (fun h122 hO122 hu122 d121 hc123 => ?_)
          have t124 := fI_of hc123 (gs_ne (gs_eq p92) (by decide))
          have t125 := fI_of hc123 (gs_eq (gs_ne p95 (by decide)))
          refine ur_ldA rfl rfl ?_
          refine ur_get rfl hc123 (gs_ne (gs_eq p92) (by decide)) ?_
          refine ur_ldA rfl rfl ?_
          refine ur_get rfl hc123 (gs_eq (gs_ne p95 (by decide))) ?_
          refine ur_if2 rfl (fun c126 => ?_) (fun c126 => ?_)
          · have t127 := lt_to c126
            refine ur_push rfl ?_
            have t128 := fI_of hc123 (gs_ne (gs_ne p88 (by decide)) (by decide))
            have t129 := fI_keep (k := 38) hO0 hO122 (hu79.tr (hu110.tr hu122)) rfl (by decide)
            exact ur_ret rfl rfl (hQ _ _ ⟨_, rfl, ⟨⟨by omega, by omega⟩, by omega, by omega, by omega⟩⟩ hO122 (hu79.tr (hu110.tr hu122)))
          · have t130 := lt_no c126
            refine ur_push rfl ?_
            refine ur_go rfl ?_
            have t131 := fI_of hc123 (gs_ne (gs_ne p88 (by decide)) (by decide))
            have t132 := fI_keep (k := 38) hO0 hO122 (hu79.tr (hu110.tr hu122)) rfl (by decide)
            exact ur_ret rfl rfl (hQ _ _ ⟨_, rfl, ⟨⟨by omega, by omega⟩, by omega, by omega, by omega⟩⟩ hO122 (hu79.tr (hu110.tr hu122)))
        refine ur_ldI rfl rfl ?_
        refine ur_ldA rfl rfl ?_
        refine ur_get rfl hc111 (mf_45 hO110 hc111) ?_
        refine ur_ldI rfl rfl ?_
        obtain ⟨xs134, hc133, hn135, he136⟩ := hO110.int (hO110.fix 102 (by decide) rfl)
        refine ur_aldV rfl hc133 hn135 (by omega) (fun x137 hx138 => ?_)
        have t139 := gI_of (j := x15) hc133 hx138
        have t140 := gI_keep (a := 102) (kd := 0) (n := 150) hO0 (hu79.tr hu110) (x15 : Int32).toInt (by decide) rfl (by decide) rfl (by decide) (by decide)
        have e141 : gV h0 102 (rt h0 a1.toInt) = x137 := (gV_e (arI_keep (a := 102) hO0 (hu79.tr hu110) (by decide) rfl (by decide) rfl (by decide) (by decide)) _).symm.trans (gV_of hc133 hx138 (by omega))
        have t142 : gI h0 102 (rt h0 a1.toInt) = x137.toInt := congrArg Int32.toInt e141
        have t143 := pre2.1 (rt h0 a1.toInt) (by omega) (by omega)
        refine ur_binV rfl (fun x144 e145 => ?_)
        have z146 := any_r x100
        have z147 := any_r x137
        have t148 := ti_add e145 (by omega) (by omega)
        refine ur_push rfl ?_
        refine ur_if2 rfl (fun c149 => ?_) (fun c149 => ?_)
        · have t150 := le_to c149
          refine ur_ldI rfl rfl ?_
          refine ur_ldA rfl rfl ?_
          refine ur_get rfl hc111 (mf_45 hO110 hc111) ?_
          refine ur_ldI rfl rfl ?_
          refine ur_aldV rfl hc133 hn135 (by omega) (fun x151 hx152 => ?_)
          obtain rfl : x137 = x151 := Option.some.inj (hx138.symm.trans hx152)
          have e153 : gV h0 102 (rt h0 a1.toInt) = x137 := (gV_e (arI_keep (a := 102) hO0 (hu79.tr hu110) (by decide) rfl (by decide) rfl (by decide) (by decide)) _).symm.trans (gV_of hc133 hx138 (by omega))
          have t154 : gI h0 102 (rt h0 a1.toInt) = x137.toInt := congrArg Int32.toInt e153
          have t155 := pre2.1 (rt h0 a1.toInt) (by omega) (by omega)
          refine ur_binV rfl (fun x156 e157 => ?_)
          have t158 := ti_add e157 (by omega) (by omega)
          have z159 := any_r x156
          exact J114 x156 (by omega) (by unfold spT; split <;> omega)
        · have t160 := le_no c149
          refine ur_push rfl ?_
          refine ur_go rfl ?_
          exact J114 999999 (by omega) (by unfold spT; split <;> omega)
      refine ur_ldI rfl rfl ?_
      refine ur_ldA rfl rfl ?_
      refine ur_get rfl hc86 (mf_45 hO79 hc86) ?_
      refine ur_ldI rfl rfl ?_
      obtain ⟨xs162, hc161, hn163, he164⟩ := hO79.int (hO79.fix 102 (by decide) rfl)
      refine ur_aldV rfl hc161 hn163 (by omega) (fun x165 hx166 => ?_)
      have t167 := gI_of (j := x15) hc161 hx166
      have t168 := gI_keep (a := 102) (kd := 0) (n := 150) hO0 hu79 (x15 : Int32).toInt (by decide) rfl (by decide) rfl (by decide) (by decide)
      have e169 : gV h0 102 (rt h0 a1.toInt) = x165 := (gV_e (arI_keep (a := 102) hO0 hu79 (by decide) rfl (by decide) rfl (by decide) (by decide)) _).symm.trans (gV_of hc161 hx166 (by omega))
      have t170 : gI h0 102 (rt h0 a1.toInt) = x165.toInt := congrArg Int32.toInt e169
      have t171 := pre2.1 (rt h0 a1.toInt) (by omega) (by omega)
      refine ur_binV rfl (fun x172 e173 => ?_)
      have z174 := any_r x100
      have z175 := any_r x165
      have t176 := ti_sub e173 (by omega) (by omega)
      refine ur_if1 rfl (fun c177 => ?_) (fun c177 => ?_)
      · have t178 := le_to c177
        refine ur_ldI rfl rfl ?_
        refine ur_ldA rfl rfl ?_
        refine ur_get rfl hc86 (mf_45 hO79 hc86) ?_
        refine ur_ldI rfl rfl ?_
        refine ur_aldV rfl hc161 hn163 (by omega) (fun x179 hx180 => ?_)
        obtain rfl : x165 = x179 := Option.some.inj (hx166.symm.trans hx180)
        have e181 : gV h0 102 (rt h0 a1.toInt) = x165 := (gV_e (arI_keep (a := 102) hO0 hu79 (by decide) rfl (by decide) rfl (by decide) (by decide)) _).symm.trans (gV_of hc161 hx166 (by omega))
        have t182 : gI h0 102 (rt h0 a1.toInt) = x165.toInt := congrArg Int32.toInt e181
        have t183 := pre2.1 (rt h0 a1.toInt) (by omega) (by omega)
        refine ur_binV rfl (fun x184 e185 => ?_)
        have t186 := ti_sub e185 (by omega) (by omega)
        have z187 := any_r x184
        exact J104 x184 (by omega) (by unfold spF; split <;> omega)
      · have t188 := le_no c177
        refine ur_push rfl ?_
        refine ur_go rfl ?_
        exact J104 0 (by omega) (by unfold spF; split <;> omega)
    refine ur_ldI rfl rfl ?_
    refine ur_push rfl ?_
    refine ur_if2 rfl (fun c189 => ?_) (fun c189 => ?_)
    · have t190 := le_to c189
      refine ur_ldI rfl rfl ?_
      refine ur_push rfl ?_
      refine ur_if2 rfl (fun c191 => ?_) (fun c191 => ?_)
      · have t192 := le_to c191
        refine ur_ldI rfl rfl ?_
        exact J83 x77 (by omega) (by have q := cp81; unfold hldI at q; split at q <;> (try split at q) <;> omega)
      · have t193 := le_no c191
        refine ur_push rfl ?_
        refine ur_go rfl ?_
        exact J83 2000000 (by omega) (by have q := cp81; unfold hldI at q; split at q <;> (try split at q) <;> omega)
    · have t194 := le_no c189
      refine ur_push rfl ?_
      refine ur_go rfl ?_
      exact J83 (-2000000) (by omega) (by have q := cp81; unfold hldI at q; split at q <;> (try split at q) <;> omega)
  refine ur_ldA rfl rfl ?_
  refine ur_get rfl hc2 (mf_26 hO0 hc2) ?_
  refine ur_ldI rfl rfl ?_
  obtain ⟨xs196, hc195, hn197, he198⟩ := hO0.int (hO0.fix 85 (by decide) rfl)
  refine ur_aldV rfl hc195 hn197 (by omega) (fun x199 hx200 => ?_)
  have t201 : 0 ≤ x199.toInt ∧ x199.toInt ≤ 61 := he198 _ _ hx200
  have H202 : RLn h0 (iN x33) (M (gI h0 97 (rt h0 a1.toInt)).toNat) ∧ ∀ l ∈ M (gI h0 97 (rt h0 a1.toInt)).toNat, lnG l := by rw [show iN x33 = (gI h0 97 (rt h0 a1.toInt)).toNat + 2 by unfold iN; omega]; exact pre1 (gI h0 97 (rt h0 a1.toInt)).toNat (by omega)
  have t203 : x199.toInt = ((M (gI h0 97 (rt h0 a1.toInt)).toNat).length : Int) := (congrArg Int32.toInt (gd5 hc195 hx200 rfl)).symm.trans H202.1.2.2.1
  refine ur_if1 rfl (fun c204 => ?_) (fun c204 => ?_)
  · have t205 := le_to c204
    have z206 := any_r x72
    exact J76 x72 _ _ hO0 un.rf (by omega) (by unfold VM; rw [e42, e54, e70]; exact rck_n2 (List.length_eq_zero_iff.mp (by omega)) e45 e57 e60 e73)
  · have t207 := le_no c204
    refine ur_push rfl ?_
    refine ur_svIk [some (.inr (.inr (some 69))), some (.inl a1), some (.inl a2), some (.inl a3), some (.inl x15), some (.inl x33), some (.inl x72), some (.inl 0)] rfl rfl ?_
    have L209 : ∀ (m210 : Nat) (x208 : Int32) (h212 : aH) , OK h212 → un [] h0 h212 → ((0 ≤ x208.toInt ∧ x208.toInt ≤ 10)) → (∀ k : Nat, (k : Int) < x208.toInt → (arI h212 88).getD k 0 = 0) → ((11 - x208.toInt).toNat) < m210 → uRun oX12_findSpan (uCall Mt (d + 3)) Q 67 ([some (.inr (.inr (some 69))), some (.inl a1), some (.inl a2), some (.inl a3), some (.inl x15), some (.inl x33), some (.inl x72), some (.inl x208)], [], h212, kc, ks) := by
      intro m210
      induction m210 with
      | zero => intro x208 h212 hO212 hu212 iv214 px213 mm215; omega
      | succ m210 ih211 =>
        intro x208 h212 hO212 hu212 iv214 px213 mm215
        refine ur_ldI rfl rfl ?_
        refine ur_ldA rfl rfl ?_
        obtain ⟨fs216, hc217⟩ := hO212.mod
        refine ur_get rfl hc217 (mf_29 hO212 hc217) ?_
        obtain ⟨xs219, hc218, hn220, he221⟩ := hO212.int (hO212.fix 88 (by decide) rfl)
        refine ur_lenV (m := 10) rfl hc218 hn220 (by decide) (fun x222 t223 => ?_)
        have z224 := any_r x208
        have z225 := any_r x222
        refine ur_if2 rfl (fun c226 => ?_) (fun c226 => ?_)
        · have t227 := le_to c226
          refine ur_ldA rfl rfl ?_
          refine ur_get rfl hc217 (mf_29 hO212 hc217) ?_
          refine ur_push rfl ?_
          refine ur_ldA rfl rfl ?_
          refine ur_get rfl hc217 (mf_41 hO212 hc217) ?_
          refine ur_ldI rfl rfl ?_
          refine ur_aldV rfl (hu212.ka (n := 150) hc35 hn37 rfl (by decide) (wid_f (by decide)) (by decide)) hn37 (by omega) (fun x228 hx229 => ?_)
          obtain rfl : x39 = x228 := Option.some.inj (hx40.symm.trans hx229)
          have e230 : gV h0 98 (rt h0 a1.toInt) = x39 := (gV_e (arI_keep (a := 98) hO0 hu212 (by decide) rfl (by decide) rfl (by decide) (by decide)) _).symm.trans (gV_of (hu212.ka (n := 150) hc35 hn37 rfl (by decide) (wid_f (by decide)) (by decide)) hx40 (by omega))
          have t231 : gI h0 98 (rt h0 a1.toInt) = x39.toInt := congrArg Int32.toInt e230
          refine ur_astV (W := []) (m := 10) rfl hO212 hc218 (by decide) hn220 (by omega) (any_r _) (Or.inl rfl) (fun h234 hO234 hu234 d232 hc233 => ?_)
          have w235 : wI h212 h234 88 ((arI h212 88).set (7 : Int32).toInt.toNat x39) := ⟨by rw [arI_of hc233, arI_of hc218], d232⟩
          refine ur_ldA rfl rfl ?_
          refine ur_get rfl ((d232 _ (by decide)).trans hc217) (mf_29 hO234 ((d232 _ (by decide)).trans hc217)) ?_
          refine ur_push rfl ?_
          refine ur_ldA rfl rfl ?_
          refine ur_get rfl ((d232 _ (by decide)).trans hc217) (mf_42 hO234 ((d232 _ (by decide)).trans hc217)) ?_
          refine ur_ldI rfl rfl ?_
          refine ur_aldV rfl ((d232 _ (by decide)).trans (hu212.ka (n := 150) hc47 hn49 rfl (by decide) (wid_f (by decide)) (by decide))) hn49 (by omega) (fun x236 hx237 => ?_)
          obtain rfl : x51 = x236 := Option.some.inj (hx52.symm.trans hx237)
          have e238 : gV h0 99 (rt h0 a1.toInt) = x51 := (gV_e (arI_keep (a := 99) hO0 (hu212.tr hu234) (by decide) rfl (by decide) rfl (by decide) (by decide)) _).symm.trans (gV_of ((d232 _ (by decide)).trans (hu212.ka (n := 150) hc47 hn49 rfl (by decide) (wid_f (by decide)) (by decide))) hx52 (by omega))
          have t239 : gI h0 99 (rt h0 a1.toInt) = x51.toInt := congrArg Int32.toInt e238
          obtain ⟨xs241, hc240, hn242, he243⟩ := hO234.int (hO234.fix 88 (by decide) rfl)
          refine ur_astV (W := []) (m := 10) rfl hO234 hc240 (by decide) hn242 (by omega) (any_r _) (Or.inl rfl) (fun h246 hO246 hu246 d244 hc245 => ?_)
          have w247 : wI h234 h246 88 ((arI h234 88).set (8 : Int32).toInt.toNat x51) := ⟨by rw [arI_of hc245, arI_of hc240], d244⟩
          refine ur_ldA rfl rfl ?_
          have hc248 := ((d244 _ (by decide)).trans ((d232 _ (by decide)).trans hc217))
          refine ur_get rfl hc248 (mf_29 hO246 hc248) ?_
          refine ur_push rfl ?_
          refine ur_ldA rfl rfl ?_
          refine ur_get rfl hc248 (mf_43 hO246 hc248) ?_
          refine ur_ldI rfl rfl ?_
          refine ur_aldV rfl ((d244 _ (by decide)).trans ((d232 _ (by decide)).trans (hu212.ka (n := 150) hc63 hn65 rfl (by decide) (wid_f (by decide)) (by decide)))) hn65 (by omega) (fun x249 hx250 => ?_)
          obtain rfl : x67 = x249 := Option.some.inj (hx68.symm.trans hx250)
          have e251 : gV h0 100 (rt h0 a1.toInt) = x67 := (gV_e (arI_keep (a := 100) hO0 (hu212.tr (hu234.tr hu246)) (by decide) rfl (by decide) rfl (by decide) (by decide)) _).symm.trans (gV_of ((d244 _ (by decide)).trans ((d232 _ (by decide)).trans (hu212.ka (n := 150) hc63 hn65 rfl (by decide) (wid_f (by decide)) (by decide)))) hx68 (by omega))
          have t252 : gI h0 100 (rt h0 a1.toInt) = x67.toInt := congrArg Int32.toInt e251
          obtain ⟨xs254, hc253, hn255, he256⟩ := hO246.int (hO246.fix 88 (by decide) rfl)
          refine ur_astV (W := []) (m := 10) rfl hO246 hc253 (by decide) hn255 (by omega) (any_r _) (Or.inl rfl) (fun h259 hO259 hu259 d257 hc258 => ?_)
          have w260 : wI h246 h259 88 ((arI h246 88).set (5 : Int32).toInt.toNat x67) := ⟨by rw [arI_of hc258, arI_of hc253], d257⟩
          refine ur_ldA rfl rfl ?_
          refine ur_get rfl ((d257 _ (by decide)).trans hc248) (mf_29 hO259 ((d257 _ (by decide)).trans hc248)) ?_
          refine ur_push rfl ?_
          refine ur_ldA rfl rfl ?_
          refine ur_get rfl ((d257 _ (by decide)).trans hc248) (mf_44 hO259 ((d257 _ (by decide)).trans hc248)) ?_
          refine ur_ldI rfl rfl ?_
          obtain ⟨xs262, hc261, hn263, he264⟩ := hO259.int (hO259.fix 101 (by decide) rfl)
          refine ur_aldV rfl hc261 hn263 (by omega) (fun x265 hx266 => ?_)
          have t267 := gI_of (j := x15) hc261 hx266
          have t268 := gI_keep (a := 101) (kd := 0) (n := 150) hO0 (hu212.tr (hu234.tr (hu246.tr hu259))) (x15 : Int32).toInt (by decide) rfl (by decide) rfl (by decide) (by decide)
          have t269 : -1 ≤ x265.toInt ∧ x265.toInt ≤ 19 := he264 _ _ hx266
          have e270 : gV h0 101 (rt h0 a1.toInt) = x265 := (gV_e (arI_keep (a := 101) hO0 (hu212.tr (hu234.tr (hu246.tr hu259))) (by decide) rfl (by decide) rfl (by decide) (by decide)) _).symm.trans (gV_of hc261 hx266 (by omega))
          have t271 : gI h0 101 (rt h0 a1.toInt) = x265.toInt := congrArg Int32.toInt e270
          refine ur_if1 rfl (fun c272 => ?_) (fun c272 => ?_)
          · have t273 := le_to c272
            refine ur_ldI rfl rfl ?_
            refine ur_if1 rfl (fun c274 => ?_) (fun c274 => ?_)
            · have t275 := ne_to c274
              refine ur_ldA rfl rfl ?_
              refine ur_get rfl ((d257 _ (by decide)).trans hc248) (mf_33 hO259 ((d257 _ (by decide)).trans hc248)) ?_
              refine ur_ldA rfl rfl ?_
              refine ur_get rfl ((d257 _ (by decide)).trans hc248) (mf_44 hO259 ((d257 _ (by decide)).trans hc248)) ?_
              refine ur_ldI rfl rfl ?_
              refine ur_aldV rfl hc261 hn263 (by omega) (fun x276 hx277 => ?_)
              obtain rfl : x265 = x276 := Option.some.inj (hx266.symm.trans hx277)
              have e278 : gV h0 101 (rt h0 a1.toInt) = x265 := (gV_e (arI_keep (a := 101) hO0 (hu212.tr (hu234.tr (hu246.tr hu259))) (by decide) rfl (by decide) rfl (by decide) (by decide)) _).symm.trans (gV_of hc261 hx266 (by omega))
              have t279 : gI h0 101 (rt h0 a1.toInt) = x265.toInt := congrArg Int32.toInt e278
              obtain ⟨xs281, hc280, hn282, he283⟩ := hO259.int (hO259.fix 92 (by decide) rfl)
              refine ur_aldV rfl hc280 hn282 (by omega) (fun x284 hx285 => ?_)
              have t286 := gI_of (j := x265) hc280 hx285
              have t287 := gI_keep (a := 92) (kd := 0) (n := 20) hO0 (hu212.tr (hu234.tr (hu246.tr hu259))) (x265 : Int32).toInt (by decide) rfl (by decide) rfl (by decide) (by decide)
              have e288 : gV h0 92 (gI h0 101 (rt h0 a1.toInt)) = x284 := (gV_e (arI_keep (a := 92) hO0 (hu212.tr (hu234.tr (hu246.tr hu259))) (by decide) rfl (by decide) rfl (by decide) (by decide)) _).symm.trans (gV_of hc280 hx285 (by omega))
              have t289 : gI h0 92 (gI h0 101 (rt h0 a1.toInt)) = x284.toInt := congrArg Int32.toInt e288
              obtain ⟨xs291, hc290, hn292, he293⟩ := hO259.int (hO259.fix 88 (by decide) rfl)
              refine ur_astV (W := []) (m := 10) rfl hO259 hc290 (by decide) hn292 (by omega) (any_r _) (Or.inl rfl) (fun h296 hO296 hu296 d294 hc295 => ?_)
              have w297 : wI h259 h296 88 ((arI h259 88).set (9 : Int32).toInt.toNat x284) := ⟨by rw [arI_of hc295, arI_of hc290], d294⟩
              refine ur_ldA rfl rfl ?_
              refine ur_ldI rfl rfl ?_
              have e298 : nuM h296 = nuY x39 x51 x67 x284 := nuM_Y hO212 (hA := h212) (fun k hk => px213 k (by omega)) (by rw [w297.1, w260.1, w247.1, w235.1]; rfl)
              have hc299 := ((d294 _ (by decide)).trans ((d257 _ (by decide)).trans hc248))
              have t300 := fI_keep (k := 38) hO0 hO296 (hu212.tr (hu234.tr (hu246.tr (hu259.tr hu296)))) rfl (by decide)
              refine ur_inl rfl (rcv_of hc299) (Nat.le_of_ble_eq_true rfl) (Nat.le_of_ble_eq_true rfl) (st_X12_gives hO296 (hX0.un hO0 hO296 (hu212.tr (hu234.tr (hu246.tr (hu259.tr hu296)))) (by decide)) _ (by show 0 ≤ x33.toInt ∧ x33.toInt ≤ 10; omega) (H202.1.keep (KN.un hO0 (hu212.tr (hu234.tr (hu246.tr (hu259.tr hu296)))) (by decide) (by decide) (by decide) (by decide) (by decide)) (by unfold iN; omega)) H202.2 (fun w301 h304 hr302 hO304 hv304 hp303 => ?_))
              have hu304 := hv304
              obtain ⟨x305, rfl, f306⟩ := hr302
              show uRun _ (uCall Mt _) _ 190 (_, [(.inl x305)], _, _, _)
              refine ur_svIk [some (.inr (.inr (some 69))), some (.inl a1), some (.inl a2), some (.inl a3), some (.inl x15), some (.inl x33), some (.inl x305), some (.inl x208)] rfl rfl ?_
              have z307 := any_r x305
              exact J76 x305 _ _ hO304 (hu212.tr (hu234.tr (hu246.tr (hu259.tr (hu296.tr hu304))))) (by omega) (by unfold VM; rw [e230, e238, e251]; rw [(show (FR h0 (rt h0 a1.toInt) a2.toInt) = x284 from by unfold FR; rw [if_neg (by omega), if_neg (by omega)]; exact e288)]; exact rck_t2 (fun q => by have := congrArg List.length q; rw [List.length_nil] at this; omega) (f306.trans (by rw [e298])))
            · have t308 := ne_no c274
              refine ur_ldA rfl rfl ?_
              refine ur_get rfl ((d257 _ (by decide)).trans hc248) (mf_31 hO259 ((d257 _ (by decide)).trans hc248)) ?_
              refine ur_ldA rfl rfl ?_
              refine ur_get rfl ((d257 _ (by decide)).trans hc248) (mf_44 hO259 ((d257 _ (by decide)).trans hc248)) ?_
              refine ur_ldI rfl rfl ?_
              refine ur_aldV rfl hc261 hn263 (by omega) (fun x309 hx310 => ?_)
              obtain rfl : x265 = x309 := Option.some.inj (hx266.symm.trans hx310)
              have e311 : gV h0 101 (rt h0 a1.toInt) = x265 := (gV_e (arI_keep (a := 101) hO0 (hu212.tr (hu234.tr (hu246.tr hu259))) (by decide) rfl (by decide) rfl (by decide) (by decide)) _).symm.trans (gV_of hc261 hx266 (by omega))
              have t312 : gI h0 101 (rt h0 a1.toInt) = x265.toInt := congrArg Int32.toInt e311
              obtain ⟨xs314, hc313, hn315, he316⟩ := hO259.int (hO259.fix 90 (by decide) rfl)
              refine ur_aldV rfl hc313 hn315 (by omega) (fun x317 hx318 => ?_)
              have t319 := gI_of (j := x265) hc313 hx318
              have t320 := gI_keep (a := 90) (kd := 0) (n := 20) hO0 (hu212.tr (hu234.tr (hu246.tr hu259))) (x265 : Int32).toInt (by decide) rfl (by decide) rfl (by decide) (by decide)
              have e321 : gV h0 90 (gI h0 101 (rt h0 a1.toInt)) = x317 := (gV_e (arI_keep (a := 90) hO0 (hu212.tr (hu234.tr (hu246.tr hu259))) (by decide) rfl (by decide) rfl (by decide) (by decide)) _).symm.trans (gV_of hc313 hx318 (by omega))
              have t322 : gI h0 90 (gI h0 101 (rt h0 a1.toInt)) = x317.toInt := congrArg Int32.toInt e321
              refine ur_go rfl ?_
              obtain ⟨xs324, hc323, hn325, he326⟩ := hO259.int (hO259.fix 88 (by decide) rfl)
              refine ur_astV (W := []) (m := 10) rfl hO259 hc323 (by decide) hn325 (by omega) (any_r _) (Or.inl rfl) (fun h329 hO329 hu329 d327 hc328 => ?_)
              have w330 : wI h259 h329 88 ((arI h259 88).set (9 : Int32).toInt.toNat x317) := ⟨by rw [arI_of hc328, arI_of hc323], d327⟩
              refine ur_ldA rfl rfl ?_
              refine ur_ldI rfl rfl ?_
              have e331 : nuM h329 = nuY x39 x51 x67 x317 := nuM_Y hO212 (hA := h212) (fun k hk => px213 k (by omega)) (by rw [w330.1, w260.1, w247.1, w235.1]; rfl)
              have hc332 := ((d327 _ (by decide)).trans ((d257 _ (by decide)).trans hc248))
              have t333 := fI_keep (k := 38) hO0 hO329 (hu212.tr (hu234.tr (hu246.tr (hu259.tr hu329)))) rfl (by decide)
              refine ur_inl rfl (rcv_of hc332) (Nat.le_of_ble_eq_true rfl) (Nat.le_of_ble_eq_true rfl) (st_X12_gives hO329 (hX0.un hO0 hO329 (hu212.tr (hu234.tr (hu246.tr (hu259.tr hu329)))) (by decide)) _ (by show 0 ≤ x33.toInt ∧ x33.toInt ≤ 10; omega) (H202.1.keep (KN.un hO0 (hu212.tr (hu234.tr (hu246.tr (hu259.tr hu329)))) (by decide) (by decide) (by decide) (by decide) (by decide)) (by unfold iN; omega)) H202.2 (fun w334 h337 hr335 hO337 hv337 hp336 => ?_))
              have hu337 := hv337
              obtain ⟨x338, rfl, f339⟩ := hr335
              show uRun _ (uCall Mt _) _ 190 (_, [(.inl x338)], _, _, _)
              refine ur_svIk [some (.inr (.inr (some 69))), some (.inl a1), some (.inl a2), some (.inl a3), some (.inl x15), some (.inl x33), some (.inl x338), some (.inl x208)] rfl rfl ?_
              have z340 := any_r x338
              exact J76 x338 _ _ hO337 (hu212.tr (hu234.tr (hu246.tr (hu259.tr (hu329.tr hu337))))) (by omega) (by unfold VM; rw [e230, e238, e251]; rw [(show (FR h0 (rt h0 a1.toInt) a2.toInt) = x317 from by unfold FR; rw [if_neg (by omega), if_pos (by omega)]; exact e321)]; exact rck_t2 (fun q => by have := congrArg List.length q; rw [List.length_nil] at this; omega) (f339.trans (by rw [e331])))
          · have t341 := le_no c272
            refine ur_push rfl ?_
            refine ur_go rfl ?_
            obtain ⟨xs343, hc342, hn344, he345⟩ := hO259.int (hO259.fix 88 (by decide) rfl)
            refine ur_astV (W := []) (m := 10) rfl hO259 hc342 (by decide) hn344 (by omega) (any_r _) (Or.inl rfl) (fun h348 hO348 hu348 d346 hc347 => ?_)
            have w349 : wI h259 h348 88 ((arI h259 88).set (9 : Int32).toInt.toNat 0) := ⟨by rw [arI_of hc347, arI_of hc342], d346⟩
            refine ur_ldA rfl rfl ?_
            refine ur_ldI rfl rfl ?_
            have e350 : nuM h348 = nuY x39 x51 x67 0 := nuM_Y hO212 (hA := h212) (fun k hk => px213 k (by omega)) (by rw [w349.1, w260.1, w247.1, w235.1]; rfl)
            have hc351 := ((d346 _ (by decide)).trans ((d257 _ (by decide)).trans hc248))
            have t352 := fI_keep (k := 38) hO0 hO348 (hu212.tr (hu234.tr (hu246.tr (hu259.tr hu348)))) rfl (by decide)
            refine ur_inl rfl (rcv_of hc351) (Nat.le_of_ble_eq_true rfl) (Nat.le_of_ble_eq_true rfl) (st_X12_gives hO348 (hX0.un hO0 hO348 (hu212.tr (hu234.tr (hu246.tr (hu259.tr hu348)))) (by decide)) _ (by show 0 ≤ x33.toInt ∧ x33.toInt ≤ 10; omega) (H202.1.keep (KN.un hO0 (hu212.tr (hu234.tr (hu246.tr (hu259.tr hu348)))) (by decide) (by decide) (by decide) (by decide) (by decide)) (by unfold iN; omega)) H202.2 (fun w353 h356 hr354 hO356 hv356 hp355 => ?_))
            have hu356 := hv356
            obtain ⟨x357, rfl, f358⟩ := hr354
            show uRun _ (uCall Mt _) _ 190 (_, [(.inl x357)], _, _, _)
            refine ur_svIk [some (.inr (.inr (some 69))), some (.inl a1), some (.inl a2), some (.inl a3), some (.inl x15), some (.inl x33), some (.inl x357), some (.inl x208)] rfl rfl ?_
            have z359 := any_r x357
            exact J76 x357 _ _ hO356 (hu212.tr (hu234.tr (hu246.tr (hu259.tr (hu348.tr hu356))))) (by omega) (by unfold VM; rw [e230, e238, e251]; rw [(show (FR h0 (rt h0 a1.toInt) a2.toInt) = 0 from by unfold FR; exact if_pos (by omega))]; exact rck_t2 (fun q => by have := congrArg List.length q; rw [List.length_nil] at this; omega) (f358.trans (by rw [e350])))
        · have t360 := le_no c226
          refine ur_ldA rfl rfl ?_
          refine ur_get rfl hc217 (mf_29 hO212 hc217) ?_
          refine ur_ldI rfl rfl ?_
          refine ur_push rfl ?_
          refine ur_astV (W := []) (m := 10) rfl hO212 hc218 (by decide) hn220 (by omega) (any_r _) (Or.inl rfl) (fun h363 hO363 hu363 d361 hc362 => ?_)
          have w364 : wI h212 h363 88 ((arI h212 88).set (x208 : Int32).toInt.toNat 0) := ⟨by rw [arI_of hc362, arI_of hc218], d361⟩
          refine ur_incV (fun z => [some (.inr (.inr (some 69))), some (.inl a1), some (.inl a2), some (.inl a3), some (.inl x15), some (.inl x33), some (.inl x72), some (.inl z)]) rfl rfl (fun _ => rfl) (fun x365 e366 => ?_)
          have t367 := ti_add e366 (by omega) (by omega)
          refine ur_go rfl ?_
          obtain ⟨f368, p369, t370⟩ := mf_38 hO363 ((d361 _ (by decide)).trans hc217)
          have t371 := fI_of ((d361 _ (by decide)).trans hc217) p369
          obtain ⟨f372, p373⟩ := mf_50 hO363 ((d361 _ (by decide)).trans hc217)
          have t374 := fI_of ((d361 _ (by decide)).trans hc217) p373
          obtain ⟨f375, p376⟩ := mf_51 hO363 ((d361 _ (by decide)).trans hc217)
          have t377 := fI_of ((d361 _ (by decide)).trans hc217) p376
          have z378 := any_r x365
          exact ih211 x365 _ hO363 (hu212.tr hu363) (by omega) (zf_s px213 w364.1 ⟨by omega, by omega, rfl⟩) (by omega)
    exact L209 _ 0 _ hO0 un.rf (by omega) (fun k hk => absurd hk (by omega)) (Nat.lt_succ_self _)

set_option maxRecDepth 20000 in
set_option maxHeartbeats 4000000 in
theorem st_X12_spansOf {d kc ks : Nat} {h0 : aH} {Q : Option aV → aH → Prop} (hO0 : OK h0) (hX0 : SX h0) (a1 : Int32) (b1 : 0 ≤ a1.toInt ∧ a1.toInt ≤ 149) (pre0 : a1.toInt < fI h0 38) (pre1 : SLm h0) (hQ : ∀ r, (∃ x : Int32, r = some (.inl x) ∧ (x.toInt = nM h0 (rt h0 a1.toInt) ∧ 0 ≤ x.toInt ∧ x.toInt ≤ 2)) → Q r h0) : uCall Mt (d + 2) 242 [(.inr (.inr (some 69))), (.inl a1)] h0 kc ks Q := by
  have l_0 : ((0) : Int32).toInt = 0 := by decide
  have l_1 : ((1) : Int32).toInt = 1 := by decide
  refine uc_ink [some (.inr (.inr (some 69))), some (.inl a1), none] mt_242 (Nat.le_of_ble_eq_true rfl) rfl ?_
  obtain ⟨fs1, hc2⟩ := hO0.mod
  obtain ⟨f3, p4, t5⟩ := mf_38 hO0 hc2
  have t6 := fI_of hc2 p4
  refine ur_ldA rfl rfl ?_
  refine ur_get rfl hc2 (mf_44 hO0 hc2) ?_
  refine ur_ldA rfl rfl ?_
  refine ur_ldI rfl rfl ?_
  refine ur_inl rfl (rcv_of hc2) (Nat.le_of_ble_eq_true rfl) (Nat.le_of_ble_eq_true rfl) (sd_X12_rootOf hO0 hX0 _ (by show 0 ≤ a1.toInt ∧ a1.toInt ≤ 149; omega) (by omega) (fun w7 hr8 => ?_))
  obtain ⟨x9, rfl, t10⟩ := hr8
  show uRun _ (uCall Mt _) _ 9 (_, [(.inl x9), (.inr (.inr (some 101)))], _, _, _)
  obtain ⟨xs12, hc11, hn13, he14⟩ := hO0.int (hO0.fix 101 (by decide) rfl)
  refine ur_aldV rfl hc11 hn13 (by omega) (fun x15 hx16 => ?_)
  have t17 := gI_of (j := x9) hc11 hx16
  have t18 : -1 ≤ x15.toInt ∧ x15.toInt ≤ 19 := he14 _ _ hx16
  have e19 : gV h0 101 (rt h0 a1.toInt) = x15 := gV_of hc11 hx16 (by omega)
  have t20 : gI h0 101 (rt h0 a1.toInt) = x15.toInt := congrArg Int32.toInt e19
  refine ur_svIk [some (.inr (.inr (some 69))), some (.inl a1), some (.inl x15)] rfl rfl ?_
  refine ur_ldI rfl rfl ?_
  refine ur_if1 rfl (fun c21 => ?_) (fun c21 => ?_)
  · have t22 := le_to c21
    refine ur_ldA rfl rfl ?_
    refine ur_get rfl hc2 (mf_32 hO0 hc2) ?_
    refine ur_ldI rfl rfl ?_
    obtain ⟨xs24, hc23, hn25, he26⟩ := hO0.int (hO0.fix 91 (by decide) rfl)
    refine ur_aldV rfl hc23 hn25 (by omega) (fun x27 hx28 => ?_)
    have t29 := gI_of (j := x15) hc23 hx28
    have e30 : gV h0 91 (gI h0 101 (rt h0 a1.toInt)) = x27 := gV_of hc23 hx28 (by omega)
    have t31 : gI h0 91 (gI h0 101 (rt h0 a1.toInt)) = x27.toInt := congrArg Int32.toInt e30
    have t32 := pre1.2 (gI h0 101 (rt h0 a1.toInt)) (by omega) (by omega)
    exact ur_ret rfl rfl (hQ _ ⟨_, rfl, ⟨by unfold nM; split <;> omega, by omega, by omega⟩⟩ )
  · have t33 := le_no c21
    refine ur_push rfl ?_
    refine ur_go rfl ?_
    exact ur_ret rfl rfl (hQ _ ⟨_, rfl, ⟨by unfold nM; split <;> omega, by omega, by omega⟩⟩ )

set_option maxRecDepth 20000 in
set_option maxHeartbeats 4000000 in
theorem st_X12_span {d kc ks : Nat} {h0 : aH} {Q : Option aV → aH → Prop} {M : Nat → List (List (Int × Int) × List (Int × Int))} (hO0 : OK h0) (hX0 : SX h0) (a1 : Int32) (a2 : Int32) (a3 : Int32) (pre0 : RXF h0 M) (pre1 : SLm h0) (hQ : ∀ r h', (∃ x : Int32, r = some (.inl x) ∧ (((0 ≤ a1.toInt ∧ a1.toInt < fI h0 38) → SPA (nM h0 (rt h0 a1.toInt)) (VM h0 M (rt h0 a1.toInt)) (gI h0 102 (rt h0 a1.toInt)) a2.toInt a3.toInt x.toInt) ∧ (¬ (0 ≤ a1.toInt ∧ a1.toInt < fI h0 38) → x.toInt = -2000000000))) → OK h' → un [] h0 h' → Q r h') : uCall Mt (d + 5) 245 [(.inr (.inr (some 69))), (.inl a1), (.inl a2), (.inl a3)] h0 kc ks Q := by
  have l_m2000000000 : ((-2000000000) : Int32).toInt = -2000000000 := by decide
  have l_0 : ((0) : Int32).toInt = 0 := by decide
  have l_1 : ((1) : Int32).toInt = 1 := by decide
  refine uc_ink [some (.inr (.inr (some 69))), some (.inl a1), some (.inl a2), some (.inl a3)] mt_245 (Nat.le_of_ble_eq_true rfl) rfl ?_
  obtain ⟨fs1, hc2⟩ := hO0.mod
  obtain ⟨f3, p4, t5⟩ := mf_38 hO0 hc2
  have t6 := fI_of hc2 p4
  refine ur_ldA rfl rfl ?_
  refine ur_ldI rfl rfl ?_
  refine ur_inl rfl (rcv_of hc2) (Nat.le_of_ble_eq_true rfl) (Nat.le_of_ble_eq_true rfl) (sd_X12_isWord hO0 _ (fun w7 hr8 => ?_))
  obtain ⟨b9, rfl, t10, t11⟩ := hr8
  show uRun _ (uCall Mt _) _ 5 (_, [(.inl (bi b9))], _, _, _)
  refine ur_eqB rfl (fun c12 => ?_) (fun c12 => ?_)
  · have t13 := t11 c12
    clear t10 t11
    refine ur_push rfl ?_
    exact ur_ret rfl rfl (hQ _ _ ⟨_, rfl, ⟨fun q => by exfalso; omega, fun _ => by omega⟩⟩ hO0 un.rf)
  · have t14 := t10 c12
    clear t10 t11
    refine ur_ldI rfl rfl ?_
    refine ur_push rfl ?_
    refine ur_ldA rfl rfl ?_
    refine ur_ldI rfl rfl ?_
    refine ur_inl rfl (rcv_of hc2) (Nat.le_of_ble_eq_true rfl) (Nat.le_of_ble_eq_true rfl) (st_X12_spansOf hO0 hX0 _ (by show 0 ≤ a1.toInt ∧ a1.toInt ≤ 149; omega) (by omega) pre1 (fun w15 hr16 => ?_))
    obtain ⟨x17, rfl, f18⟩ := hr16
    show uRun _ (uCall Mt _) _ 15 (_, [(.inl x17), (.inl 0), (.inl a2)], _, _, _)
    refine ur_push rfl ?_
    refine ur_binV rfl (fun x19 e20 => ?_)
    have z21 := any_r x17
    have t22 := ti_sub e20 (by omega) (by omega)
    refine ur_callv rfl rfl (Nat.le_of_ble_eq_true rfl) (Nat.le_of_ble_eq_true rfl) rfl (sp_in _ _ _ _ _) ?_
    refine ur_eqB rfl (fun c25 => ?_) (fun c25 => ?_)
    · have t26 := wi_no c25
      refine ur_push rfl ?_
      exact ur_ret rfl rfl (hQ _ _ ⟨_, rfl, ⟨fun _ => SPA.n (by omega) (by omega), fun q => absurd (by omega) q⟩⟩ hO0 un.rf)
    · have t27 := wi_to c25
      refine ur_ldI rfl rfl ?_
      refine ur_push rfl ?_
      refine ur_push rfl ?_
      refine ur_callv rfl rfl (Nat.le_of_ble_eq_true rfl) (Nat.le_of_ble_eq_true rfl) rfl (sp_in _ _ _ _ _) ?_
      refine ur_eqB rfl (fun c30 => ?_) (fun c30 => ?_)
      · have t31 := wi_noL c30 l_0 l_1
        refine ur_push rfl ?_
        exact ur_ret rfl rfl (hQ _ _ ⟨_, rfl, ⟨fun _ => SPA.n (by omega) (by omega), fun q => absurd (by omega) q⟩⟩ hO0 un.rf)
      · have t32 := wi_toL c30 l_0 l_1
        refine ur_ldA rfl rfl ?_
        refine ur_ldI rfl rfl ?_
        refine ur_ldI rfl rfl ?_
        refine ur_push rfl ?_
        obtain ⟨f33, p34⟩ := mf_50 hO0 hc2
        have t35 := fI_of hc2 p34
        obtain ⟨f36, p37⟩ := mf_51 hO0 hc2
        have t38 := fI_of hc2 p37
        refine ur_inl rfl (rcv_of hc2) (Nat.le_of_ble_eq_true rfl) (Nat.le_of_ble_eq_true rfl) (st_X12_findSpan hO0 hX0 _ (by show 0 ≤ a1.toInt ∧ a1.toInt ≤ 149; omega) _ _ (by show -400 ≤ (0 : Int32).toInt ∧ (0 : Int32).toInt ≤ 400; omega) (by omega) pre0 pre1 (fun w39 h41 hr40 hO41 hv41 => ?_))
        have hu41 := hv41
        obtain ⟨x42, rfl, f43⟩ := hr40
        show uRun _ (uCall Mt _) _ 39 (_, [(.inl x42)], _, _, _)
        obtain ⟨fs44, hc45⟩ := hO41.mod
        obtain ⟨f46, p47⟩ := mf_50 hO41 hc45
        have t48 := fI_of hc45 p47
        obtain ⟨f49, p50⟩ := mf_51 hO41 hc45
        have t51 := fI_of hc45 p50
        have w52 := f43
        rw [l_0, Int.add_zero] at w52
        refine ur_if1 rfl (fun c53 => ?_) (fun c53 => ?_)
        · have t54 := ne_to c53
          refine ur_ldI rfl rfl ?_
          refine ur_if1 rfl (fun c55 => ?_) (fun c55 => ?_)
          · have t56 := ne_to c55
            refine ur_ldA rfl rfl ?_
            refine ur_get rfl hc45 p50 ?_
            obtain ⟨f57, p58, t59⟩ := mf_38 hO41 hc45
            have t60 := fI_of hc45 p58
            have t61 := fI_keep (k := 38) hO0 hO41 hu41 rfl (by decide)
            exact ur_ret rfl rfl (hQ _ _ ⟨_, rfl, ⟨fun _ => SPA.y w52.1.1 w52.1.2 (by omega) (by omega) (by omega) (by omega), fun q => absurd (by omega) q⟩⟩ hO41 hu41)
          · have t62 := ne_no c55
            refine ur_ldA rfl rfl ?_
            refine ur_get rfl hc45 p47 ?_
            refine ur_go rfl ?_
            obtain ⟨f63, p64, t65⟩ := mf_38 hO41 hc45
            have t66 := fI_of hc45 p64
            have t67 := fI_keep (k := 38) hO0 hO41 hu41 rfl (by decide)
            exact ur_ret rfl rfl (hQ _ _ ⟨_, rfl, ⟨fun _ => SPA.y w52.1.1 w52.1.2 (by omega) (by omega) (by omega) (by omega), fun q => absurd (by omega) q⟩⟩ hO41 hu41)
        · have t68 := ne_no c53
          refine ur_push rfl ?_
          obtain ⟨f69, p70, t71⟩ := mf_38 hO41 hc45
          have t72 := fI_of hc45 p70
          have t73 := fI_keep (k := 38) hO0 hO41 hu41 rfl (by decide)
          exact ur_ret rfl rfl (hQ _ _ ⟨_, rfl, ⟨fun _ => SPA.e w52.1.1 w52.1.2 (by omega) (by omega), fun q => absurd (by omega) q⟩⟩ hO41 hu41)

set_option maxRecDepth 20000 in
set_option maxHeartbeats 4000000 in
theorem st_X12_evening {d kc ks : Nat} {h0 : aH} {Q : Option aV → aH → Prop} {M : Nat → List (List (Int × Int) × List (Int × Int))} (hO0 : OK h0) (hX0 : SX h0) (a1 : Int32) (a2 : Int32) (pre0 : RXF h0 M) (pre1 : SLm h0) (hQ : ∀ r h', (∃ x : Int32, r = some (.inl x) ∧ ((((0 ≤ a1.toInt ∧ a1.toInt < fI h0 38) ∧ (0 ≤ a2.toInt ∧ a2.toInt < fI h0 38)) → (0 ≤ x.toInt ∨ x.toInt = -2) ∧ EVS (nM h0 (rt h0 a2.toInt)) (nM h0 (rt h0 a1.toInt)) (0) (cmn (VM h0 M (rt h0 a1.toInt)) (gI h0 102 (rt h0 a1.toInt)) (VM h0 M (rt h0 a2.toInt)) (gI h0 102 (rt h0 a2.toInt))) (x.toInt)) ∧ (¬ ((0 ≤ a1.toInt ∧ a1.toInt < fI h0 38) ∧ (0 ≤ a2.toInt ∧ a2.toInt < fI h0 38)) → x.toInt = -1))) → OK h' → un [] h0 h' → Q r h') : uCall Mt (d + 5) 256 [(.inr (.inr (some 69))), (.inl a1), (.inl a2)] h0 kc ks Q := by
  have l_m2 : ((-2) : Int32).toInt = -2 := by decide
  have l_m1 : ((-1) : Int32).toInt = -1 := by decide
  have l_0 : ((0) : Int32).toInt = 0 := by decide
  have l_1 : ((1) : Int32).toInt = 1 := by decide
  refine uc_ink [some (.inr (.inr (some 69))), some (.inl a1), some (.inl a2), none, none, none, none, none, none] mt_256 (Nat.le_of_ble_eq_true rfl) rfl ?_
  obtain ⟨fs1, hc2⟩ := hO0.mod
  obtain ⟨f3, p4, t5⟩ := mf_4 hO0 hc2
  have t6 := fI_of hc2 p4
  obtain ⟨f7, p8, t9⟩ := mf_38 hO0 hc2
  have t10 := fI_of hc2 p8
  have tt11 := nM_r hO0 pre1 (rt h0 a1.toInt)
  have tt12 := nM_r hO0 pre1 (rt h0 a2.toInt)
  refine ur_ldA rfl rfl ?_
  refine ur_ldI rfl rfl ?_
  refine ur_inl rfl (rcv_of hc2) (Nat.le_of_ble_eq_true rfl) (Nat.le_of_ble_eq_true rfl) (sd_X12_isWord hO0 _ (fun w13 hr14 => ?_))
  obtain ⟨b15, rfl, t16, t17⟩ := hr14
  show uRun _ (uCall Mt _) _ 5 (_, [(.inl (bi b15))], _, _, _)
  refine ur_eqB rfl (fun c18 => ?_) (fun c18 => ?_)
  · have t19 := t17 c18
    clear t16 t17
    refine ur_push rfl ?_
    exact ur_ret rfl rfl (hQ _ _ ⟨_, rfl, ⟨fun q => by exfalso; omega, fun _ => by omega⟩⟩ hO0 un.rf)
  · have t20 := t16 c18
    clear t16 t17
    refine ur_ldA rfl rfl ?_
    refine ur_ldI rfl rfl ?_
    refine ur_inl rfl (rcv_of hc2) (Nat.le_of_ble_eq_true rfl) (Nat.le_of_ble_eq_true rfl) (sd_X12_isWord hO0 _ (fun w21 hr22 => ?_))
    obtain ⟨b23, rfl, t24, t25⟩ := hr22
    show uRun _ (uCall Mt _) _ 13 (_, [(.inl (bi b23))], _, _, _)
    refine ur_neB rfl (fun c26 => ?_) (fun c26 => ?_)
    · have t27 := t24 c26
      clear t24 t25
      refine ur_push rfl ?_
      refine ur_svIk [some (.inr (.inr (some 69))), some (.inl a1), some (.inl a2), some (.inl (-2)), none, none, none, none, none] rfl rfl ?_
      refine ur_push rfl ?_
      refine ur_svIk [some (.inr (.inr (some 69))), some (.inl a1), some (.inl a2), some (.inl (-2)), some (.inl 0), none, none, none, none] rfl rfl ?_
      have L34 : ∀ (m35 : Nat) (x28 : Int32) (x29 : Int32) (u30 : Option aV) (u31 : Option aV) (u32 : Option aV) (u33 : Option aV) (h37 : aH) , OK h37 → un [] h0 h37 → ((-2 ≤ x28.toInt ∧ x28.toInt ≤ 999999) ∧ (0 ≤ x29.toInt ∧ x29.toInt ≤ 2) ∧ (x28.toInt = -2 ∨ 0 ≤ x28.toInt) ∧ x29.toInt ≤ nM h0 (rt h0 a1.toInt)) → (EVS (nM h0 (rt h0 a2.toInt)) (x29.toInt) (0) (cmn (VM h0 M (rt h0 a1.toInt)) (gI h0 102 (rt h0 a1.toInt)) (VM h0 M (rt h0 a2.toInt)) (gI h0 102 (rt h0 a2.toInt))) (x28.toInt)) → ((3 - x29.toInt).toNat) < m35 → uRun oX12_evening (uCall Mt (d + 4)) Q 24 ([some (.inr (.inr (some 69))), some (.inl a1), some (.inl a2), some (.inl x28), some (.inl x29), u30, u31, u32, u33], [], h37, kc, ks) := by
        intro m35
        induction m35 with
        | zero => intro x28 x29 u30 u31 u32 u33 h37 hO37 hu37 iv39 px38 mm40; omega
        | succ m35 ih36 =>
          intro x28 x29 u30 u31 u32 u33 h37 hO37 hu37 iv39 px38 mm40
          refine ur_ldI rfl rfl ?_
          refine ur_ldA rfl rfl ?_
          refine ur_ldI rfl rfl ?_
          obtain ⟨fs41, hc42⟩ := hO37.mod
          obtain ⟨f43, p44, t45⟩ := mf_38 hO37 hc42
          have t46 := fI_of hc42 p44
          have t47 := fI_keep (k := 4) hO0 hO37 hu37 rfl (by decide)
          have t48 := fI_keep (k := 38) hO0 hO37 hu37 rfl (by decide)
          refine ur_inl rfl (rcv_of hc42) (Nat.le_of_ble_eq_true rfl) (Nat.le_of_ble_eq_true rfl) (st_X12_spansOf hO37 (hX0.un hO0 hO37 hu37 (by decide)) _ (by show 0 ≤ a1.toInt ∧ a1.toInt ≤ 149; omega) (by omega) (pre1.un hO0 hO37 hu37 (by decide) (by decide)) (fun w49 hr50 => ?_))
          obtain ⟨x51, rfl, f52⟩ := hr50
          show uRun _ (uCall Mt _) _ 31 (_, [(.inl x51), (.inl x29)], _, _, _)
          have e53 : rt h37 a1.toInt = rt h0 a1.toInt := rt_c (CEm_of hO0 hX0) (KWm.un hO0 hu37 (by decide)) (by omega) (by omega)
          have e54 : rt h37 a2.toInt = rt h0 a2.toInt := rt_c (CEm_of hO0 hX0) (KWm.un hO0 hu37 (by decide)) (by omega) (by omega)
          have e55 := f52.1
          rw [e53, nM_c hO0 hu37] at e55
          have z56 := any_r x29
          have z57 := any_r x51
          refine ur_if2 rfl (fun c58 => ?_) (fun c58 => ?_)
          · have t59 := le_to c58
            refine ur_ldI rfl rfl ?_
            obtain ⟨f60, p61, t62⟩ := mf_4 hO37 hc42
            have t63 := fI_of hc42 p61
            exact ur_ret rfl rfl (hQ _ _ ⟨_, rfl, ⟨fun _ => ⟨by omega, (px38.cg (by omega) (by omega))⟩, fun q => absurd (by omega) q⟩⟩ hO37 hu37)
          · have t64 := le_no c58
            refine ur_ldA rfl rfl ?_
            refine ur_ldI rfl rfl ?_
            refine ur_ldI rfl rfl ?_
            refine ur_push rfl ?_
            obtain ⟨f65, p66⟩ := mf_50 hO37 hc42
            have t67 := fI_of hc42 p66
            obtain ⟨f68, p69⟩ := mf_51 hO37 hc42
            have t70 := fI_of hc42 p69
            refine ur_inl rfl (rcv_of hc42) (Nat.le_of_ble_eq_true rfl) (Nat.le_of_ble_eq_true rfl) (st_X12_findSpan hO37 (hX0.un hO0 hO37 hu37 (by decide)) _ (by show 0 ≤ a1.toInt ∧ a1.toInt ≤ 149; omega) _ _ (by show -400 ≤ (0 : Int32).toInt ∧ (0 : Int32).toInt ≤ 400; omega) (by omega) (pre0.un hO0 hu37) (pre1.un hO0 hO37 hu37 (by decide) (by decide)) (fun w71 h73 hr72 hO73 hv73 => ?_))
            have hu73 := hv73
            obtain ⟨x74, rfl, f75⟩ := hr72
            show uRun _ (uCall Mt _) _ 42 (_, [(.inl x74)], _, _, _)
            obtain ⟨fs76, hc77⟩ := hO73.mod
            obtain ⟨f78, p79⟩ := mf_50 hO73 hc77
            have t80 := fI_of hc77 p79
            obtain ⟨f81, p82⟩ := mf_51 hO73 hc77
            have t83 := fI_of hc77 p82
            have w84 := f75
            have e85 : rt h37 a1.toInt = rt h0 a1.toInt := rt_c (CEm_of hO0 hX0) (KWm.un hO0 hu37 (by decide)) (by omega) (by omega)
            rw [l_0, Int.add_zero, e85, VM_c hO0 hu37, gI_keep (a := 102) (kd := 0) (n := 150) hO0 hu37 _ (by decide) rfl (by decide) rfl (by decide) (by decide)] at w84
            refine ur_if1 rfl (fun c86 => ?_) (fun c86 => ?_)
            · have t87 := ne_to c86
              refine ur_ldA rfl rfl ?_
              refine ur_get rfl hc77 p79 ?_
              refine ur_svIk [some (.inr (.inr (some 69))), some (.inl a1), some (.inl a2), some (.inl x28), some (.inl x29), some (.inl f78), u31, u32, u33] rfl rfl ?_
              refine ur_ldA rfl rfl ?_
              refine ur_get rfl hc77 p82 ?_
              refine ur_svIk [some (.inr (.inr (some 69))), some (.inl a1), some (.inl a2), some (.inl x28), some (.inl x29), some (.inl f78), some (.inl f81), u32, u33] rfl rfl ?_
              have e88 : f78.toInt = spF (VM h0 M (rt h0 a1.toInt) x29.toInt) (gI h0 102 (rt h0 a1.toInt)) := by rw [← w84.1.1]; omega
              have e89 : f81.toInt = spT (VM h0 M (rt h0 a1.toInt) x29.toInt) (gI h0 102 (rt h0 a1.toInt)) := by rw [← w84.1.2]; omega
              refine ur_push rfl ?_
              refine ur_svIk [some (.inr (.inr (some 69))), some (.inl a1), some (.inl a2), some (.inl x28), some (.inl x29), some (.inl f78), some (.inl f81), some (.inl 0), u33] rfl rfl ?_
              obtain ⟨f96, p97, t98⟩ := mf_4 hO73 hc77
              have t99 := fI_of hc77 p97
              obtain ⟨f100, p101, t102⟩ := mf_38 hO73 hc77
              have t103 := fI_of hc77 p101
              have L93 : ∀ (m94 : Nat) (x90 : Int32) (x91 : Int32) (u92 : Option aV) (h104 : aH) , OK h104 → un [] h73 h104 → ((-2 ≤ x90.toInt ∧ x90.toInt ≤ 999999) ∧ (0 ≤ x91.toInt ∧ x91.toInt ≤ 2) ∧ (x90.toInt = -2 ∨ 0 ≤ x90.toInt) ∧ x91.toInt ≤ nM h0 (rt h0 a2.toInt)) → (EVS (nM h0 (rt h0 a2.toInt)) (x29.toInt) (x91.toInt) (cmn (VM h0 M (rt h0 a1.toInt)) (gI h0 102 (rt h0 a1.toInt)) (VM h0 M (rt h0 a2.toInt)) (gI h0 102 (rt h0 a2.toInt))) (x90.toInt)) → ((3 - x91.toInt).toNat) < m94 → uRun oX12_evening (uCall Mt (d + 4)) Q 63 ([some (.inr (.inr (some 69))), some (.inl a1), some (.inl a2), some (.inl x90), some (.inl x29), some (.inl f78), some (.inl f81), some (.inl x91), u92], [], h104, kc, ks) := by
                intro m94
                induction m94 with
                | zero => intro x90 x91 u92 h104 hO104 hu104 iv106 px105 mm107; omega
                | succ m94 ih95 =>
                  intro x90 x91 u92 h104 hO104 hu104 iv106 px105 mm107
                  refine ur_ldI rfl rfl ?_
                  refine ur_ldA rfl rfl ?_
                  refine ur_ldI rfl rfl ?_
                  obtain ⟨fs108, hc109⟩ := hO104.mod
                  obtain ⟨f110, p111, t112⟩ := mf_38 hO104 hc109
                  have t113 := fI_of hc109 p111
                  have t114 := fI_keep (k := 4) hO0 hO104 (hu37.tr (hu73.tr hu104)) rfl (by decide)
                  have t115 := fI_keep (k := 38) hO0 hO104 (hu37.tr (hu73.tr hu104)) rfl (by decide)
                  refine ur_inl rfl (rcv_of hc109) (Nat.le_of_ble_eq_true rfl) (Nat.le_of_ble_eq_true rfl) (st_X12_spansOf hO104 (hX0.un hO0 hO104 (hu37.tr (hu73.tr hu104)) (by decide)) _ (by show 0 ≤ a2.toInt ∧ a2.toInt ≤ 149; omega) (by omega) (pre1.un hO0 hO104 (hu37.tr (hu73.tr hu104)) (by decide) (by decide)) (fun w116 hr117 => ?_))
                  obtain ⟨x118, rfl, f119⟩ := hr117
                  show uRun _ (uCall Mt _) _ 70 (_, [(.inl x118), (.inl x91)], _, _, _)
                  have e120 : rt h104 a1.toInt = rt h0 a1.toInt := rt_c (CEm_of hO0 hX0) (KWm.un hO0 (hu37.tr (hu73.tr hu104)) (by decide)) (by omega) (by omega)
                  have e121 : rt h104 a2.toInt = rt h0 a2.toInt := rt_c (CEm_of hO0 hX0) (KWm.un hO0 (hu37.tr (hu73.tr hu104)) (by decide)) (by omega) (by omega)
                  have e122 := f119.1
                  rw [e121, nM_c hO0 (hu37.tr (hu73.tr hu104))] at e122
                  have z123 := any_r x91
                  have z124 := any_r x118
                  refine ur_if2 rfl (fun c125 => ?_) (fun c125 => ?_)
                  · have t126 := le_to c125
                    refine ur_incV (fun z => [some (.inr (.inr (some 69))), some (.inl a1), some (.inl a2), some (.inl x90), some (.inl z), some (.inl f78), some (.inl f81), some (.inl x91), u92]) rfl rfl (fun _ => rfl) (fun x127 e128 => ?_)
                    have t129 := ti_add e128 (by omega) (by omega)
                    refine ur_go rfl ?_
                    obtain ⟨f130, p131, t132⟩ := mf_4 hO104 hc109
                    have t133 := fI_of hc109 p131
                    have z134 := any_r x90
                    have z135 := any_r x127
                    exact ih36 x90 x127 _ _ _ _ _ hO104 (hu37.tr (hu73.tr hu104)) (by omega) (px105.nx (by omega) (by omega) (by omega)) (by omega)
                  · have t136 := le_no c125
                    refine ur_ldA rfl rfl ?_
                    refine ur_ldI rfl rfl ?_
                    refine ur_ldI rfl rfl ?_
                    refine ur_push rfl ?_
                    obtain ⟨f137, p138⟩ := mf_50 hO104 hc109
                    have t139 := fI_of hc109 p138
                    obtain ⟨f140, p141⟩ := mf_51 hO104 hc109
                    have t142 := fI_of hc109 p141
                    refine ur_inl rfl (rcv_of hc109) (Nat.le_of_ble_eq_true rfl) (Nat.le_of_ble_eq_true rfl) (st_X12_findSpan hO104 (hX0.un hO0 hO104 (hu37.tr (hu73.tr hu104)) (by decide)) _ (by show 0 ≤ a2.toInt ∧ a2.toInt ≤ 149; omega) _ _ (by show -400 ≤ (0 : Int32).toInt ∧ (0 : Int32).toInt ≤ 400; omega) (by omega) (pre0.un hO0 (hu37.tr (hu73.tr hu104))) (pre1.un hO0 hO104 (hu37.tr (hu73.tr hu104)) (by decide) (by decide)) (fun w143 h145 hr144 hO145 hv145 => ?_))
                    have hu145 := hv145
                    obtain ⟨x146, rfl, f147⟩ := hr144
                    show uRun _ (uCall Mt _) _ 81 (_, [(.inl x146)], _, _, _)
                    obtain ⟨fs148, hc149⟩ := hO145.mod
                    obtain ⟨f150, p151⟩ := mf_50 hO145 hc149
                    have t152 := fI_of hc149 p151
                    obtain ⟨f153, p154⟩ := mf_51 hO145 hc149
                    have t155 := fI_of hc149 p154
                    have w156 := f147
                    have e157 : rt h104 a2.toInt = rt h0 a2.toInt := rt_c (CEm_of hO0 hX0) (KWm.un hO0 (hu37.tr (hu73.tr hu104)) (by decide)) (by omega) (by omega)
                    rw [l_0, Int.add_zero, e157, VM_c hO0 (hu37.tr (hu73.tr hu104)), gI_keep (a := 102) (kd := 0) (n := 150) hO0 (hu37.tr (hu73.tr hu104)) _ (by decide) rfl (by decide) rfl (by decide) (by decide)] at w156
                    refine ur_if1 rfl (fun c158 => ?_) (fun c158 => ?_)
                    · have t159 := ne_to c158
                      refine ur_ldI rfl rfl ?_
                      refine ur_ldA rfl rfl ?_
                      refine ur_get rfl hc149 p151 ?_
                      have z160 := any_r f78
                      have z161 := any_r f150
                      refine ur_if2 rfl (fun c162 => ?_) (fun c162 => ?_)
                      · have t163 := le_to c162
                        refine ur_ldA rfl rfl ?_
                        refine ur_get rfl hc149 p151 ?_
                        refine ur_svIk [some (.inr (.inr (some 69))), some (.inl a1), some (.inl a2), some (.inl x90), some (.inl x29), some (.inl f78), some (.inl f81), some (.inl x91), some (.inl f150)] rfl rfl ?_
                        refine ur_ldI rfl rfl ?_
                        refine ur_ldI rfl rfl ?_
                        have z164 := any_r f81
                        refine ur_if2 rfl (fun c165 => ?_) (fun c165 => ?_)
                        · have t166 := lt_to c165
                          refine ur_incV (fun z => [some (.inr (.inr (some 69))), some (.inl a1), some (.inl a2), some (.inl x90), some (.inl x29), some (.inl f78), some (.inl f81), some (.inl z), some (.inl f150)]) rfl rfl (fun _ => rfl) (fun x167 e168 => ?_)
                          have t169 := ti_add e168 (by omega) (by omega)
                          refine ur_go rfl ?_
                          obtain ⟨f170, p171, t172⟩ := mf_4 hO145 hc149
                          have t173 := fI_of hc149 p171
                          obtain ⟨f174, p175, t176⟩ := mf_38 hO145 hc149
                          have t177 := fI_of hc149 p175
                          have z178 := any_r x90
                          have z179 := any_r x167
                          exact ih95 x90 x167 _ _ hO145 (hu104.tr hu145) (by omega) (px105.st e88 w156.1.1 e89 w156.1.2 (Or.inl (by omega)) (by omega)) (by omega)
                        · have t180 := lt_no c165
                          refine ur_ldI rfl rfl ?_
                          refine ur_ldA rfl rfl ?_
                          refine ur_get rfl hc149 p154 ?_
                          have z181 := any_r f153
                          refine ur_if2 rfl (fun c182 => ?_) (fun c182 => ?_)
                          · have t183 := lt_to c182
                            refine ur_incV (fun z => [some (.inr (.inr (some 69))), some (.inl a1), some (.inl a2), some (.inl x90), some (.inl x29), some (.inl f78), some (.inl f81), some (.inl z), some (.inl f150)]) rfl rfl (fun _ => rfl) (fun x184 e185 => ?_)
                            have t186 := ti_add e185 (by omega) (by omega)
                            refine ur_go rfl ?_
                            obtain ⟨f187, p188, t189⟩ := mf_4 hO145 hc149
                            have t190 := fI_of hc149 p188
                            obtain ⟨f191, p192, t193⟩ := mf_38 hO145 hc149
                            have t194 := fI_of hc149 p192
                            have z195 := any_r x90
                            have z196 := any_r x184
                            exact ih95 x90 x184 _ _ hO145 (hu104.tr hu145) (by omega) (px105.st e88 w156.1.1 e89 w156.1.2 (Or.inl (by omega)) (by omega)) (by omega)
                          · have t197 := lt_no c182
                            refine ur_ldI rfl rfl ?_
                            refine ur_if1 rfl (fun c198 => ?_) (fun c198 => ?_)
                            · have t199 := lt_to c198
                              refine ur_ldI rfl rfl ?_
                              refine ur_svIk [some (.inr (.inr (some 69))), some (.inl a1), some (.inl a2), some (.inl f150), some (.inl x29), some (.inl f78), some (.inl f81), some (.inl x91), some (.inl f150)] rfl rfl ?_
                              refine ur_incV (fun z => [some (.inr (.inr (some 69))), some (.inl a1), some (.inl a2), some (.inl f150), some (.inl x29), some (.inl f78), some (.inl f81), some (.inl z), some (.inl f150)]) rfl rfl (fun _ => rfl) (fun x200 e201 => ?_)
                              have t202 := ti_add e201 (by omega) (by omega)
                              refine ur_go rfl ?_
                              obtain ⟨f203, p204, t205⟩ := mf_4 hO145 hc149
                              have t206 := fI_of hc149 p204
                              obtain ⟨f207, p208, t209⟩ := mf_38 hO145 hc149
                              have t210 := fI_of hc149 p208
                              have z211 := any_r x200
                              exact ih95 f150 x200 _ _ hO145 (hu104.tr hu145) (by omega) (px105.st e88 w156.1.1 e89 w156.1.2 (Or.inr (by omega)) (by omega)) (by omega)
                            · have t212 := lt_no c198
                              refine ur_ldI rfl rfl ?_
                              refine ur_ldI rfl rfl ?_
                              have z213 := any_r x90
                              refine ur_if2 rfl (fun c214 => ?_) (fun c214 => ?_)
                              · have t215 := le_to c214
                                refine ur_incV (fun z => [some (.inr (.inr (some 69))), some (.inl a1), some (.inl a2), some (.inl x90), some (.inl x29), some (.inl f78), some (.inl f81), some (.inl z), some (.inl f150)]) rfl rfl (fun _ => rfl) (fun x216 e217 => ?_)
                                have t218 := ti_add e217 (by omega) (by omega)
                                refine ur_go rfl ?_
                                obtain ⟨f219, p220, t221⟩ := mf_4 hO145 hc149
                                have t222 := fI_of hc149 p220
                                obtain ⟨f223, p224, t225⟩ := mf_38 hO145 hc149
                                have t226 := fI_of hc149 p224
                                have z227 := any_r x216
                                exact ih95 x90 x216 _ _ hO145 (hu104.tr hu145) (by omega) (px105.st e88 w156.1.1 e89 w156.1.2 (Or.inl (by omega)) (by omega)) (by omega)
                              · have t228 := le_no c214
                                refine ur_ldI rfl rfl ?_
                                refine ur_svIk [some (.inr (.inr (some 69))), some (.inl a1), some (.inl a2), some (.inl f150), some (.inl x29), some (.inl f78), some (.inl f81), some (.inl x91), some (.inl f150)] rfl rfl ?_
                                refine ur_incV (fun z => [some (.inr (.inr (some 69))), some (.inl a1), some (.inl a2), some (.inl f150), some (.inl x29), some (.inl f78), some (.inl f81), some (.inl z), some (.inl f150)]) rfl rfl (fun _ => rfl) (fun x229 e230 => ?_)
                                have t231 := ti_add e230 (by omega) (by omega)
                                refine ur_go rfl ?_
                                obtain ⟨f232, p233, t234⟩ := mf_4 hO145 hc149
                                have t235 := fI_of hc149 p233
                                obtain ⟨f236, p237, t238⟩ := mf_38 hO145 hc149
                                have t239 := fI_of hc149 p237
                                have z240 := any_r x229
                                exact ih95 f150 x229 _ _ hO145 (hu104.tr hu145) (by omega) (px105.st e88 w156.1.1 e89 w156.1.2 (Or.inr (by omega)) (by omega)) (by omega)
                      · have t241 := le_no c162
                        refine ur_ldI rfl rfl ?_
                        refine ur_go rfl ?_
                        refine ur_svIk [some (.inr (.inr (some 69))), some (.inl a1), some (.inl a2), some (.inl x90), some (.inl x29), some (.inl f78), some (.inl f81), some (.inl x91), some (.inl f78)] rfl rfl ?_
                        refine ur_ldI rfl rfl ?_
                        refine ur_ldI rfl rfl ?_
                        have z242 := any_r f81
                        refine ur_if2 rfl (fun c243 => ?_) (fun c243 => ?_)
                        · have t244 := lt_to c243
                          refine ur_incV (fun z => [some (.inr (.inr (some 69))), some (.inl a1), some (.inl a2), some (.inl x90), some (.inl x29), some (.inl f78), some (.inl f81), some (.inl z), some (.inl f78)]) rfl rfl (fun _ => rfl) (fun x245 e246 => ?_)
                          have t247 := ti_add e246 (by omega) (by omega)
                          refine ur_go rfl ?_
                          obtain ⟨f248, p249, t250⟩ := mf_4 hO145 hc149
                          have t251 := fI_of hc149 p249
                          obtain ⟨f252, p253, t254⟩ := mf_38 hO145 hc149
                          have t255 := fI_of hc149 p253
                          have z256 := any_r x90
                          have z257 := any_r x245
                          exact ih95 x90 x245 _ _ hO145 (hu104.tr hu145) (by omega) (px105.st e88 w156.1.1 e89 w156.1.2 (Or.inl (by omega)) (by omega)) (by omega)
                        · have t258 := lt_no c243
                          refine ur_ldI rfl rfl ?_
                          refine ur_ldA rfl rfl ?_
                          refine ur_get rfl hc149 p154 ?_
                          have z259 := any_r f153
                          refine ur_if2 rfl (fun c260 => ?_) (fun c260 => ?_)
                          · have t261 := lt_to c260
                            refine ur_incV (fun z => [some (.inr (.inr (some 69))), some (.inl a1), some (.inl a2), some (.inl x90), some (.inl x29), some (.inl f78), some (.inl f81), some (.inl z), some (.inl f78)]) rfl rfl (fun _ => rfl) (fun x262 e263 => ?_)
                            have t264 := ti_add e263 (by omega) (by omega)
                            refine ur_go rfl ?_
                            obtain ⟨f265, p266, t267⟩ := mf_4 hO145 hc149
                            have t268 := fI_of hc149 p266
                            obtain ⟨f269, p270, t271⟩ := mf_38 hO145 hc149
                            have t272 := fI_of hc149 p270
                            have z273 := any_r x90
                            have z274 := any_r x262
                            exact ih95 x90 x262 _ _ hO145 (hu104.tr hu145) (by omega) (px105.st e88 w156.1.1 e89 w156.1.2 (Or.inl (by omega)) (by omega)) (by omega)
                          · have t275 := lt_no c260
                            refine ur_ldI rfl rfl ?_
                            refine ur_if1 rfl (fun c276 => ?_) (fun c276 => ?_)
                            · have t277 := lt_to c276
                              refine ur_ldI rfl rfl ?_
                              refine ur_svIk [some (.inr (.inr (some 69))), some (.inl a1), some (.inl a2), some (.inl f78), some (.inl x29), some (.inl f78), some (.inl f81), some (.inl x91), some (.inl f78)] rfl rfl ?_
                              refine ur_incV (fun z => [some (.inr (.inr (some 69))), some (.inl a1), some (.inl a2), some (.inl f78), some (.inl x29), some (.inl f78), some (.inl f81), some (.inl z), some (.inl f78)]) rfl rfl (fun _ => rfl) (fun x278 e279 => ?_)
                              have t280 := ti_add e279 (by omega) (by omega)
                              refine ur_go rfl ?_
                              obtain ⟨f281, p282, t283⟩ := mf_4 hO145 hc149
                              have t284 := fI_of hc149 p282
                              obtain ⟨f285, p286, t287⟩ := mf_38 hO145 hc149
                              have t288 := fI_of hc149 p286
                              have z289 := any_r x278
                              exact ih95 f78 x278 _ _ hO145 (hu104.tr hu145) (by omega) (px105.st e88 w156.1.1 e89 w156.1.2 (Or.inr (by omega)) (by omega)) (by omega)
                            · have t290 := lt_no c276
                              refine ur_ldI rfl rfl ?_
                              refine ur_ldI rfl rfl ?_
                              have z291 := any_r x90
                              refine ur_if2 rfl (fun c292 => ?_) (fun c292 => ?_)
                              · have t293 := le_to c292
                                refine ur_incV (fun z => [some (.inr (.inr (some 69))), some (.inl a1), some (.inl a2), some (.inl x90), some (.inl x29), some (.inl f78), some (.inl f81), some (.inl z), some (.inl f78)]) rfl rfl (fun _ => rfl) (fun x294 e295 => ?_)
                                have t296 := ti_add e295 (by omega) (by omega)
                                refine ur_go rfl ?_
                                obtain ⟨f297, p298, t299⟩ := mf_4 hO145 hc149
                                have t300 := fI_of hc149 p298
                                obtain ⟨f301, p302, t303⟩ := mf_38 hO145 hc149
                                have t304 := fI_of hc149 p302
                                have z305 := any_r x294
                                exact ih95 x90 x294 _ _ hO145 (hu104.tr hu145) (by omega) (px105.st e88 w156.1.1 e89 w156.1.2 (Or.inl (by omega)) (by omega)) (by omega)
                              · have t306 := le_no c292
                                refine ur_ldI rfl rfl ?_
                                refine ur_svIk [some (.inr (.inr (some 69))), some (.inl a1), some (.inl a2), some (.inl f78), some (.inl x29), some (.inl f78), some (.inl f81), some (.inl x91), some (.inl f78)] rfl rfl ?_
                                refine ur_incV (fun z => [some (.inr (.inr (some 69))), some (.inl a1), some (.inl a2), some (.inl f78), some (.inl x29), some (.inl f78), some (.inl f81), some (.inl z), some (.inl f78)]) rfl rfl (fun _ => rfl) (fun x307 e308 => ?_)
                                have t309 := ti_add e308 (by omega) (by omega)
                                refine ur_go rfl ?_
                                obtain ⟨f310, p311, t312⟩ := mf_4 hO145 hc149
                                have t313 := fI_of hc149 p311
                                obtain ⟨f314, p315, t316⟩ := mf_38 hO145 hc149
                                have t317 := fI_of hc149 p315
                                have z318 := any_r x307
                                exact ih95 f78 x307 _ _ hO145 (hu104.tr hu145) (by omega) (px105.st e88 w156.1.1 e89 w156.1.2 (Or.inr (by omega)) (by omega)) (by omega)
                    · have t319 := ne_no c158
                      refine ur_go rfl ?_
                      refine ur_incV (fun z => [some (.inr (.inr (some 69))), some (.inl a1), some (.inl a2), some (.inl x90), some (.inl x29), some (.inl f78), some (.inl f81), some (.inl z), u92]) rfl rfl (fun _ => rfl) (fun x320 e321 => ?_)
                      have t322 := ti_add e321 (by omega) (by omega)
                      refine ur_go rfl ?_
                      obtain ⟨f323, p324, t325⟩ := mf_4 hO145 hc149
                      have t326 := fI_of hc149 p324
                      obtain ⟨f327, p328, t329⟩ := mf_38 hO145 hc149
                      have t330 := fI_of hc149 p328
                      have z331 := any_r x90
                      have z332 := any_r x320
                      exact ih95 x90 x320 _ _ hO145 (hu104.tr hu145) (by omega) (px105.st e88 w156.1.1 e89 w156.1.2 (Or.inl (by omega)) (by omega)) (by omega)
              have z333 := any_r x28
              exact L93 _ x28 0 (u33) _ hO73 un.rf (by omega) (px38.cg (by omega) (by omega)) (Nat.lt_succ_self _)
            · have t334 := ne_no c86
              refine ur_go rfl ?_
              refine ur_incV (fun z => [some (.inr (.inr (some 69))), some (.inl a1), some (.inl a2), some (.inl x28), some (.inl z), u30, u31, u32, u33]) rfl rfl (fun _ => rfl) (fun x335 e336 => ?_)
              have t337 := ti_add e336 (by omega) (by omega)
              refine ur_go rfl ?_
              obtain ⟨f338, p339, t340⟩ := mf_4 hO73 hc77
              have t341 := fI_of hc77 p339
              obtain ⟨f342, p343, t344⟩ := mf_38 hO73 hc77
              have t345 := fI_of hc77 p343
              have z346 := any_r x28
              have z347 := any_r x335
              exact ih36 x28 x335 _ _ _ _ _ hO73 (hu37.tr hu73) (by omega) (px38.row w84.1.1 w84.1.2 (by omega) (by omega) (by omega)) (by omega)
      exact L34 _ (-2) 0 (none) (none) (none) (none) _ hO0 un.rf (by omega) (EVS.z (by omega) (by omega) (by omega)) (Nat.lt_succ_self _)
    · have t348 := t25 c26
      clear t24 t25
      refine ur_push rfl ?_
      exact ur_ret rfl rfl (hQ _ _ ⟨_, rfl, ⟨fun q => by exfalso; omega, fun _ => by omega⟩⟩ hO0 un.rf)

set_option maxRecDepth 20000 in
set_option maxHeartbeats 4000000 in
theorem st_X12_ofWord {d kc ks : Nat} {h0 : aH} {Q : Option aV → aH → Prop} (hO0 : OK h0) (hX0 : SX h0) (a1 : Int32) (a2 : Int32) (pre0 : SLm h0) (hQ : ∀ r, (∃ x : Int32, r = some (.inl x) ∧ (((0 ≤ a1.toInt ∧ a1.toInt < fI h0 38) → (a2.toInt = 0 → x.toInt = gI h0 96 a1.toInt) ∧ (a2.toInt = 1 → x.toInt = gI h0 97 a1.toInt) ∧ (a2.toInt = 2 → x.toInt = gI h0 98 a1.toInt) ∧ (a2.toInt = 3 → x.toInt = gI h0 99 a1.toInt) ∧ (a2.toInt = 4 → x.toInt = gI h0 100 a1.toInt) ∧ (a2.toInt = 5 → x.toInt = gI h0 101 a1.toInt) ∧ (a2.toInt = 6 → x.toInt = gI h0 102 a1.toInt) ∧ (a2.toInt = 7 → x.toInt = gI h0 103 a1.toInt) ∧ (a2.toInt = 8 → x.toInt = rt h0 a1.toInt) ∧ (a2.toInt = 9 → x.toInt = nM h0 (rt h0 a1.toInt)) ∧ (a2.toInt < 0 ∨ 9 < a2.toInt → x.toInt = -1)) ∧ (¬ (0 ≤ a1.toInt ∧ a1.toInt < fI h0 38) → x.toInt = -1))) → Q r h0) : uCall Mt (d + 3) 243 [(.inr (.inr (some 69))), (.inl a1), (.inl a2)] h0 kc ks Q := by
  have l_m1 : ((-1) : Int32).toInt = -1 := by decide
  refine uc_ink [some (.inr (.inr (some 69))), some (.inl a1), some (.inl a2)] mt_243 (Nat.le_of_ble_eq_true rfl) rfl ?_
  obtain ⟨fs1, hc2⟩ := hO0.mod
  obtain ⟨f3, p4, t5⟩ := mf_38 hO0 hc2
  have t6 := fI_of hc2 p4
  refine ur_ldA rfl rfl ?_
  refine ur_ldI rfl rfl ?_
  refine ur_inl rfl (rcv_of hc2) (Nat.le_of_ble_eq_true rfl) (Nat.le_of_ble_eq_true rfl) (sd_X12_isWord hO0 _ (fun w7 hr8 => ?_))
  obtain ⟨b9, rfl, t10, t11⟩ := hr8
  show uRun _ (uCall Mt _) _ 5 (_, [(.inl (bi b9))], _, _, _)
  refine ur_neB rfl (fun c12 => ?_) (fun c12 => ?_)
  · have t13 := t10 c12
    clear t10 t11
    refine ur_ldI rfl rfl ?_
    rcases (show (a2.toInt < 0 ∨ 9 < a2.toInt) ∨ a2.toInt = 0 ∨ a2.toInt = 1 ∨ a2.toInt = 2 ∨ a2.toInt = 3 ∨ a2.toInt = 4 ∨ a2.toInt = 5 ∨ a2.toInt = 6 ∨ a2.toInt = 7 ∨ a2.toInt = 8 ∨ a2.toInt = 9 by omega) with t14 | t14 | t14 | t14 | t14 | t14 | t14 | t14 | t14 | t14 | t14
    · refine ur_tabO rfl (by show a2.toInt < 0 ∨ 0 + 10 ≤ a2.toInt; omega) ?_
      refine ur_push rfl ?_
      exact ur_ret rfl rfl (hQ _ ⟨_, rfl, ⟨fun _ => ⟨fun q => by exfalso; omega, fun q => by exfalso; omega, fun q => by exfalso; omega, fun q => by exfalso; omega, fun q => by exfalso; omega, fun q => by exfalso; omega, fun q => by exfalso; omega, fun q => by exfalso; omega, fun q => by exfalso; omega, fun q => by exfalso; omega, fun q => by omega⟩, fun q => absurd (by omega) q⟩⟩ )
    · refine ur_tabI rfl (by omega) (by rw [t14]; rfl) ?_
      refine ur_ldA rfl rfl ?_
      refine ur_get rfl hc2 (mf_39 hO0 hc2) ?_
      refine ur_ldI rfl rfl ?_
      obtain ⟨xs16, hc15, hn17, he18⟩ := hO0.int (hO0.fix 96 (by decide) rfl)
      refine ur_aldV rfl hc15 hn17 (by omega) (fun x19 hx20 => ?_)
      have t21 := gI_of (j := a1) hc15 hx20
      have t22 : 0 ≤ x19.toInt ∧ x19.toInt ≤ 7 := he18 _ _ hx20
      exact ur_ret rfl rfl (hQ _ ⟨_, rfl, ⟨fun _ => ⟨fun q => by omega, fun q => by exfalso; omega, fun q => by exfalso; omega, fun q => by exfalso; omega, fun q => by exfalso; omega, fun q => by exfalso; omega, fun q => by exfalso; omega, fun q => by exfalso; omega, fun q => by exfalso; omega, fun q => by exfalso; omega, fun q => by omega⟩, fun q => absurd (by omega) q⟩⟩ )
    · refine ur_tabI rfl (by omega) (by rw [t14]; rfl) ?_
      refine ur_ldA rfl rfl ?_
      refine ur_get rfl hc2 (mf_40 hO0 hc2) ?_
      refine ur_ldI rfl rfl ?_
      obtain ⟨xs24, hc23, hn25, he26⟩ := hO0.int (hO0.fix 97 (by decide) rfl)
      refine ur_aldV rfl hc23 hn25 (by omega) (fun x27 hx28 => ?_)
      have t29 := gI_of (j := a1) hc23 hx28
      have t30 : 0 ≤ x27.toInt ∧ x27.toInt ≤ 8 := he26 _ _ hx28
      exact ur_ret rfl rfl (hQ _ ⟨_, rfl, ⟨fun _ => ⟨fun q => by exfalso; omega, fun q => by omega, fun q => by exfalso; omega, fun q => by exfalso; omega, fun q => by exfalso; omega, fun q => by exfalso; omega, fun q => by exfalso; omega, fun q => by exfalso; omega, fun q => by exfalso; omega, fun q => by exfalso; omega, fun q => by omega⟩, fun q => absurd (by omega) q⟩⟩ )
    · refine ur_tabI rfl (by omega) (by rw [t14]; rfl) ?_
      refine ur_ldA rfl rfl ?_
      refine ur_get rfl hc2 (mf_41 hO0 hc2) ?_
      refine ur_ldI rfl rfl ?_
      obtain ⟨xs32, hc31, hn33, he34⟩ := hO0.int (hO0.fix 98 (by decide) rfl)
      refine ur_aldV rfl hc31 hn33 (by omega) (fun x35 hx36 => ?_)
      have t37 := gI_of (j := a1) hc31 hx36
      exact ur_ret rfl rfl (hQ _ ⟨_, rfl, ⟨fun _ => ⟨fun q => by exfalso; omega, fun q => by exfalso; omega, fun q => by omega, fun q => by exfalso; omega, fun q => by exfalso; omega, fun q => by exfalso; omega, fun q => by exfalso; omega, fun q => by exfalso; omega, fun q => by exfalso; omega, fun q => by exfalso; omega, fun q => by omega⟩, fun q => absurd (by omega) q⟩⟩ )
    · refine ur_tabI rfl (by omega) (by rw [t14]; rfl) ?_
      refine ur_ldA rfl rfl ?_
      refine ur_get rfl hc2 (mf_42 hO0 hc2) ?_
      refine ur_ldI rfl rfl ?_
      obtain ⟨xs39, hc38, hn40, he41⟩ := hO0.int (hO0.fix 99 (by decide) rfl)
      refine ur_aldV rfl hc38 hn40 (by omega) (fun x42 hx43 => ?_)
      have t44 := gI_of (j := a1) hc38 hx43
      exact ur_ret rfl rfl (hQ _ ⟨_, rfl, ⟨fun _ => ⟨fun q => by exfalso; omega, fun q => by exfalso; omega, fun q => by exfalso; omega, fun q => by omega, fun q => by exfalso; omega, fun q => by exfalso; omega, fun q => by exfalso; omega, fun q => by exfalso; omega, fun q => by exfalso; omega, fun q => by exfalso; omega, fun q => by omega⟩, fun q => absurd (by omega) q⟩⟩ )
    · refine ur_tabI rfl (by omega) (by rw [t14]; rfl) ?_
      refine ur_ldA rfl rfl ?_
      refine ur_get rfl hc2 (mf_43 hO0 hc2) ?_
      refine ur_ldI rfl rfl ?_
      obtain ⟨xs46, hc45, hn47, he48⟩ := hO0.int (hO0.fix 100 (by decide) rfl)
      refine ur_aldV rfl hc45 hn47 (by omega) (fun x49 hx50 => ?_)
      have t51 := gI_of (j := a1) hc45 hx50
      exact ur_ret rfl rfl (hQ _ ⟨_, rfl, ⟨fun _ => ⟨fun q => by exfalso; omega, fun q => by exfalso; omega, fun q => by exfalso; omega, fun q => by exfalso; omega, fun q => by omega, fun q => by exfalso; omega, fun q => by exfalso; omega, fun q => by exfalso; omega, fun q => by exfalso; omega, fun q => by exfalso; omega, fun q => by omega⟩, fun q => absurd (by omega) q⟩⟩ )
    · refine ur_tabI rfl (by omega) (by rw [t14]; rfl) ?_
      refine ur_ldA rfl rfl ?_
      refine ur_get rfl hc2 (mf_44 hO0 hc2) ?_
      refine ur_ldI rfl rfl ?_
      obtain ⟨xs53, hc52, hn54, he55⟩ := hO0.int (hO0.fix 101 (by decide) rfl)
      refine ur_aldV rfl hc52 hn54 (by omega) (fun x56 hx57 => ?_)
      have t58 := gI_of (j := a1) hc52 hx57
      have t59 : -1 ≤ x56.toInt ∧ x56.toInt ≤ 19 := he55 _ _ hx57
      exact ur_ret rfl rfl (hQ _ ⟨_, rfl, ⟨fun _ => ⟨fun q => by exfalso; omega, fun q => by exfalso; omega, fun q => by exfalso; omega, fun q => by exfalso; omega, fun q => by exfalso; omega, fun q => by omega, fun q => by exfalso; omega, fun q => by exfalso; omega, fun q => by exfalso; omega, fun q => by exfalso; omega, fun q => by omega⟩, fun q => absurd (by omega) q⟩⟩ )
    · refine ur_tabI rfl (by omega) (by rw [t14]; rfl) ?_
      refine ur_ldA rfl rfl ?_
      refine ur_get rfl hc2 (mf_45 hO0 hc2) ?_
      refine ur_ldI rfl rfl ?_
      obtain ⟨xs61, hc60, hn62, he63⟩ := hO0.int (hO0.fix 102 (by decide) rfl)
      refine ur_aldV rfl hc60 hn62 (by omega) (fun x64 hx65 => ?_)
      have t66 := gI_of (j := a1) hc60 hx65
      exact ur_ret rfl rfl (hQ _ ⟨_, rfl, ⟨fun _ => ⟨fun q => by exfalso; omega, fun q => by exfalso; omega, fun q => by exfalso; omega, fun q => by exfalso; omega, fun q => by exfalso; omega, fun q => by exfalso; omega, fun q => by omega, fun q => by exfalso; omega, fun q => by exfalso; omega, fun q => by exfalso; omega, fun q => by omega⟩, fun q => absurd (by omega) q⟩⟩ )
    · refine ur_tabI rfl (by omega) (by rw [t14]; rfl) ?_
      refine ur_ldA rfl rfl ?_
      refine ur_get rfl hc2 (mf_46 hO0 hc2) ?_
      refine ur_ldI rfl rfl ?_
      obtain ⟨xs68, hc67, hn69, he70⟩ := hO0.int (hO0.fix 103 (by decide) rfl)
      refine ur_aldV rfl hc67 hn69 (by omega) (fun x71 hx72 => ?_)
      have t73 := gI_of (j := a1) hc67 hx72
      have t74 : -1 ≤ x71.toInt ∧ x71.toInt ≤ 149 := he70 _ _ hx72
      exact ur_ret rfl rfl (hQ _ ⟨_, rfl, ⟨fun _ => ⟨fun q => by exfalso; omega, fun q => by exfalso; omega, fun q => by exfalso; omega, fun q => by exfalso; omega, fun q => by exfalso; omega, fun q => by exfalso; omega, fun q => by exfalso; omega, fun q => by omega, fun q => by exfalso; omega, fun q => by exfalso; omega, fun q => by omega⟩, fun q => absurd (by omega) q⟩⟩ )
    · refine ur_tabI rfl (by omega) (by rw [t14]; rfl) ?_
      refine ur_ldA rfl rfl ?_
      refine ur_ldI rfl rfl ?_
      refine ur_inl rfl (rcv_of hc2) (Nat.le_of_ble_eq_true rfl) (Nat.le_of_ble_eq_true rfl) (sd_X12_rootOf hO0 hX0 _ (by show 0 ≤ a1.toInt ∧ a1.toInt ≤ 149; omega) (by omega) (fun w75 hr76 => ?_))
      obtain ⟨x77, rfl, t78⟩ := hr76
      show uRun _ (uCall Mt _) _ 125 (_, [(.inl x77)], _, _, _)
      exact ur_ret rfl rfl (hQ _ ⟨_, rfl, ⟨fun _ => ⟨fun q => by exfalso; omega, fun q => by exfalso; omega, fun q => by exfalso; omega, fun q => by exfalso; omega, fun q => by exfalso; omega, fun q => by exfalso; omega, fun q => by exfalso; omega, fun q => by exfalso; omega, fun q => by omega, fun q => by exfalso; omega, fun q => by omega⟩, fun q => absurd (by omega) q⟩⟩ )
    · refine ur_tabI rfl (by omega) (by rw [t14]; rfl) ?_
      refine ur_ldA rfl rfl ?_
      refine ur_ldI rfl rfl ?_
      refine ur_inl rfl (rcv_of hc2) (Nat.le_of_ble_eq_true rfl) (Nat.le_of_ble_eq_true rfl) (st_X12_spansOf hO0 hX0 _ (by show 0 ≤ a1.toInt ∧ a1.toInt ≤ 149; omega) (by omega) pre0 (fun w79 hr80 => ?_))
      obtain ⟨x81, rfl, f82⟩ := hr80
      show uRun _ (uCall Mt _) _ 131 (_, [(.inl x81)], _, _, _)
      exact ur_ret rfl rfl (hQ _ ⟨_, rfl, ⟨fun _ => ⟨fun q => by exfalso; omega, fun q => by exfalso; omega, fun q => by exfalso; omega, fun q => by exfalso; omega, fun q => by exfalso; omega, fun q => by exfalso; omega, fun q => by exfalso; omega, fun q => by exfalso; omega, fun q => by exfalso; omega, fun q => by omega, fun q => by omega⟩, fun q => absurd (by omega) q⟩⟩ )
  · have t83 := t11 c12
    clear t10 t11
    refine ur_push rfl ?_
    exact ur_ret rfl rfl (hQ _ ⟨_, rfl, ⟨fun q => absurd q (by omega), fun _ => by omega⟩⟩ )

set_option maxRecDepth 20000 in
set_option maxHeartbeats 4000000 in
theorem st_X12_reign {d kc ks : Nat} {h0 : aH} {Q : Option aV → aH → Prop} (hO0 : OK h0) (a1 : Int32) (a2 : Int32) (a3 : Int32) (hQ : ∀ r h', (∃ x : Int32, r = some (.inl x) ∧ (x.toInt = 1 ∧ ((0 ≤ a1.toInt ∧ a1.toInt ≤ 19) ∧ (0 ≤ a2.toInt ∧ a2.toInt ≤ 999999) ∧ (-1 ≤ a3.toInt ∧ a3.toInt ≤ 999999)) ∨ x.toInt = -1 ∧ ¬ ((0 ≤ a1.toInt ∧ a1.toInt ≤ 19) ∧ (0 ≤ a2.toInt ∧ a2.toInt ≤ 999999) ∧ (-1 ≤ a3.toInt ∧ a3.toInt ≤ 999999)))) → OK h' → un [90, 91, 92] h0 h' → ((((0 ≤ a1.toInt ∧ a1.toInt ≤ 19) ∧ (0 ≤ a2.toInt ∧ a2.toInt ≤ 999999) ∧ (-1 ≤ a3.toInt ∧ a3.toInt ≤ 999999)) → ∃ v : Int32, (v.toInt = 1 ∨ v.toInt = 2) ∧ arI h' 91 = (arI h0 91).set a1.toInt.toNat v) ∧ (¬ ((0 ≤ a1.toInt ∧ a1.toInt ≤ 19) ∧ (0 ≤ a2.toInt ∧ a2.toInt ≤ 999999) ∧ (-1 ≤ a3.toInt ∧ a3.toInt ≤ 999999)) → h' = h0)) → ((((0 ≤ a1.toInt ∧ a1.toInt ≤ 19) ∧ (0 ≤ a2.toInt ∧ a2.toInt ≤ 999999) ∧ (-1 ≤ a3.toInt ∧ a3.toInt ≤ 999999)) → arI h' 90 = (arI h0 90).set a1.toInt.toNat a2 ∧ arI h' 92 = (arI h0 92).set a1.toInt.toNat a3 ∧ ∃ v : Int32, (v.toInt = 1 ∨ v.toInt = 2) ∧ arI h' 91 = (arI h0 91).set a1.toInt.toNat v ∧ (v.toInt = 1 ↔ a3.toInt = -1)) ∧ (¬ ((0 ≤ a1.toInt ∧ a1.toInt ≤ 19) ∧ (0 ≤ a2.toInt ∧ a2.toInt ≤ 999999) ∧ (-1 ≤ a3.toInt ∧ a3.toInt ≤ 999999)) → h' = h0)) → Q r h') : uCall Mt (d + 3) 231 [(.inr (.inr (some 69))), (.inl a1), (.inl a2), (.inl a3)] h0 kc ks Q := by
  have l_m1 : ((-1) : Int32).toInt = -1 := by decide
  have l_0 : ((0) : Int32).toInt = 0 := by decide
  have l_1 : ((1) : Int32).toInt = 1 := by decide
  have l_2 : ((2) : Int32).toInt = 2 := by decide
  have l_19 : ((19) : Int32).toInt = 19 := by decide
  have l_999999 : ((999999) : Int32).toInt = 999999 := by decide
  refine uc_ink [some (.inr (.inr (some 69))), some (.inl a1), some (.inl a2), some (.inl a3)] mt_231 (Nat.le_of_ble_eq_true rfl) rfl ?_
  refine ur_ldI rfl rfl ?_
  refine ur_push rfl ?_
  refine ur_push rfl ?_
  refine ur_callv rfl rfl (Nat.le_of_ble_eq_true rfl) (Nat.le_of_ble_eq_true rfl) rfl (sp_in _ _ _ _ _) ?_
  refine ur_eqB rfl (fun c3 => ?_) (fun c3 => ?_)
  · have t4 := wi_noL c3 l_0 l_19
    refine ur_push rfl ?_
    exact ur_ret rfl rfl (hQ _ _ ⟨_, rfl, by omega⟩ hO0 un.rf ⟨fun q => by exfalso; omega, fun _ => rfl⟩ ⟨fun q => by exfalso; omega, fun _ => rfl⟩)
  · have t5 := wi_toL c3 l_0 l_19
    refine ur_ldI rfl rfl ?_
    refine ur_callv rfl rfl (Nat.le_of_ble_eq_true rfl) (Nat.le_of_ble_eq_true rfl) rfl (sq_isDay _ _) ?_
    refine ur_eqB rfl (fun c8 => ?_) (fun c8 => ?_)
    · have t9 := wi_noL c8 l_0 l_999999
      refine ur_push rfl ?_
      exact ur_ret rfl rfl (hQ _ _ ⟨_, rfl, by omega⟩ hO0 un.rf ⟨fun q => by exfalso; omega, fun _ => rfl⟩ ⟨fun q => by exfalso; omega, fun _ => rfl⟩)
    · have t10 := wi_toL c8 l_0 l_999999
      refine ur_ldI rfl rfl ?_
      refine ur_push rfl ?_
      refine ur_if2 rfl (fun c11 => ?_) (fun c11 => ?_)
      · have t12 := eq_to c11
        refine ur_ldA rfl rfl ?_
        obtain ⟨fs13, hc14⟩ := hO0.mod
        refine ur_get rfl hc14 (mf_31 hO0 hc14) ?_
        refine ur_ldI rfl rfl ?_
        refine ur_ldI rfl rfl ?_
        obtain ⟨xs16, hc15, hn17, he18⟩ := hO0.int (hO0.fix 90 (by decide) rfl)
        refine ur_astV (W := [90, 91, 92]) (m := 20) rfl hO0 hc15 (by decide) hn17 (by omega) (any_r _) (Or.inr (Or.inr (wid_fix (by decide) (by decide)))) (fun h21 hO21 hu21 d19 hc20 => ?_)
        have w22 : wI h0 h21 90 ((arI h0 90).set (a1 : Int32).toInt.toNat a2) := ⟨by rw [arI_of hc20, arI_of hc15], d19⟩
        refine ur_ldA rfl rfl ?_
        refine ur_get rfl ((d19 _ (by decide)).trans hc14) (mf_33 hO21 ((d19 _ (by decide)).trans hc14)) ?_
        refine ur_ldI rfl rfl ?_
        refine ur_ldI rfl rfl ?_
        obtain ⟨xs24, hc23, hn25, he26⟩ := hO21.int (hO21.fix 92 (by decide) rfl)
        refine ur_astV (W := [90, 91, 92]) (m := 20) rfl hO21 hc23 (by decide) hn25 (by omega) (any_r _) (Or.inr (Or.inr (wid_fix (by decide) (by decide)))) (fun h29 hO29 hu29 d27 hc28 => ?_)
        have w30 : wI h21 h29 92 ((arI h21 92).set (a1 : Int32).toInt.toNat a3) := ⟨by rw [arI_of hc28, arI_of hc23], d27⟩
        refine ur_ldA rfl rfl ?_
        refine ur_get rfl ((d27 _ (by decide)).trans ((d19 _ (by decide)).trans hc14)) (mf_32 hO29 ((d27 _ (by decide)).trans ((d19 _ (by decide)).trans hc14))) ?_
        refine ur_ldI rfl rfl ?_
        refine ur_ldI rfl rfl ?_
        refine ur_if1 rfl (fun c31 => ?_) (fun c31 => ?_)
        · have t32 := le_to c31
          exfalso
          omega
        · have t33 := le_no c31
          refine ur_push rfl ?_
          refine ur_go rfl ?_
          obtain ⟨xs35, hc34, hn36, he37⟩ := hO29.int (hO29.fix 91 (by decide) rfl)
          refine ur_astV (W := [90, 91, 92]) (m := 20) rfl hO29 hc34 (by decide) hn36 (by omega) (any_r _) (Or.inr (Or.inr (wid_fix (by decide) (by decide)))) (fun h40 hO40 hu40 d38 hc39 => ?_)
          have w41 : wI h29 h40 91 ((arI h29 91).set (a1 : Int32).toInt.toNat 1) := ⟨by rw [arI_of hc39, arI_of hc34], d38⟩
          refine ur_push rfl ?_
          exact ur_ret rfl rfl (hQ _ _ ⟨_, rfl, by omega⟩ hO40 (hu21.tr (hu29.tr hu40)) ⟨fun _ => ⟨1, by omega, by rw [w41.1, show arI h29 91 = arI h0 91 from ((w30.oI (by decide)).trans ((w22.oI (by decide)).trans rfl))]⟩, fun q => absurd (by omega) q⟩ ⟨fun _ => ⟨(w41.oI (by decide)).trans ((w30.oI (by decide)).trans w22.1), (w41.oI (by decide)).trans (w30.1.trans (by rw [w22.oI (by decide)])), 1, by decide, w41.1.trans (by rw [w30.oI (by decide), w22.oI (by decide)]), by omega⟩, fun q => absurd (by omega) q⟩)
      · have t42 := eq_no c11
        refine ur_ldI rfl rfl ?_
        refine ur_callv rfl rfl (Nat.le_of_ble_eq_true rfl) (Nat.le_of_ble_eq_true rfl) rfl (sq_isDay _ _) ?_
        refine ur_neB rfl (fun c45 => ?_) (fun c45 => ?_)
        · have t46 := wi_toL c45 l_0 l_999999
          refine ur_ldA rfl rfl ?_
          obtain ⟨fs47, hc48⟩ := hO0.mod
          refine ur_get rfl hc48 (mf_31 hO0 hc48) ?_
          refine ur_ldI rfl rfl ?_
          refine ur_ldI rfl rfl ?_
          obtain ⟨xs50, hc49, hn51, he52⟩ := hO0.int (hO0.fix 90 (by decide) rfl)
          refine ur_astV (W := [90, 91, 92]) (m := 20) rfl hO0 hc49 (by decide) hn51 (by omega) (any_r _) (Or.inr (Or.inr (wid_fix (by decide) (by decide)))) (fun h55 hO55 hu55 d53 hc54 => ?_)
          have w56 : wI h0 h55 90 ((arI h0 90).set (a1 : Int32).toInt.toNat a2) := ⟨by rw [arI_of hc54, arI_of hc49], d53⟩
          refine ur_ldA rfl rfl ?_
          refine ur_get rfl ((d53 _ (by decide)).trans hc48) (mf_33 hO55 ((d53 _ (by decide)).trans hc48)) ?_
          refine ur_ldI rfl rfl ?_
          refine ur_ldI rfl rfl ?_
          obtain ⟨xs58, hc57, hn59, he60⟩ := hO55.int (hO55.fix 92 (by decide) rfl)
          refine ur_astV (W := [90, 91, 92]) (m := 20) rfl hO55 hc57 (by decide) hn59 (by omega) (any_r _) (Or.inr (Or.inr (wid_fix (by decide) (by decide)))) (fun h63 hO63 hu63 d61 hc62 => ?_)
          have w64 : wI h55 h63 92 ((arI h55 92).set (a1 : Int32).toInt.toNat a3) := ⟨by rw [arI_of hc62, arI_of hc57], d61⟩
          refine ur_ldA rfl rfl ?_
          refine ur_get rfl ((d61 _ (by decide)).trans ((d53 _ (by decide)).trans hc48)) (mf_32 hO63 ((d61 _ (by decide)).trans ((d53 _ (by decide)).trans hc48))) ?_
          refine ur_ldI rfl rfl ?_
          refine ur_ldI rfl rfl ?_
          refine ur_if1 rfl (fun c65 => ?_) (fun c65 => ?_)
          · have t66 := le_to c65
            refine ur_push rfl ?_
            obtain ⟨xs68, hc67, hn69, he70⟩ := hO63.int (hO63.fix 91 (by decide) rfl)
            refine ur_astV (W := [90, 91, 92]) (m := 20) rfl hO63 hc67 (by decide) hn69 (by omega) (any_r _) (Or.inr (Or.inr (wid_fix (by decide) (by decide)))) (fun h73 hO73 hu73 d71 hc72 => ?_)
            have w74 : wI h63 h73 91 ((arI h63 91).set (a1 : Int32).toInt.toNat 2) := ⟨by rw [arI_of hc72, arI_of hc67], d71⟩
            refine ur_push rfl ?_
            exact ur_ret rfl rfl (hQ _ _ ⟨_, rfl, by omega⟩ hO73 (hu55.tr (hu63.tr hu73)) ⟨fun _ => ⟨2, by omega, by rw [w74.1, show arI h63 91 = arI h0 91 from ((w64.oI (by decide)).trans ((w56.oI (by decide)).trans rfl))]⟩, fun q => absurd (by omega) q⟩ ⟨fun _ => ⟨(w74.oI (by decide)).trans ((w64.oI (by decide)).trans w56.1), (w74.oI (by decide)).trans (w64.1.trans (by rw [w56.oI (by decide)])), 2, by decide, w74.1.trans (by rw [w64.oI (by decide), w56.oI (by decide)]), by omega⟩, fun q => absurd (by omega) q⟩)
          · have t75 := le_no c65
            exfalso
            omega
        · have t76 := wi_noL c45 l_0 l_999999
          refine ur_push rfl ?_
          exact ur_ret rfl rfl (hQ _ _ ⟨_, rfl, by omega⟩ hO0 un.rf ⟨fun q => by exfalso; omega, fun _ => rfl⟩ ⟨fun q => by exfalso; omega, fun _ => rfl⟩)
end T10S
