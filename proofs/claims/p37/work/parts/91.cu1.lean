/-! CONTRACTS of the reference, the seventh part, printed by program -/
section CU1
set_option maxRecDepth 20000 in
set_option maxHeartbeats 4000000 in
theorem sg_isLodged {d kc ks : Nat} {h0 : aH} {Q : Option aV → aH → Prop} (a0 : Int32) (hQ : ∀ r, (∃ q, r = some (.inl (bi q)) ∧ (q = true → a0.toInt = 1 ∨ a0.toInt = 6) ∧ (q = false → a0.toInt ≠ 1 ∧ a0.toInt ≠ 6)) → Q r h0) : uCall Mt (d + 1) 235 [(.inl a0)] h0 kc ks Q := by
  have l_0 : ((0) : Int32).toInt = 0 := by decide
  have l_1 : ((1) : Int32).toInt = 1 := by decide
  have l_6 : ((6) : Int32).toInt = 6 := by decide
  refine uc_ink [some (.inl a0)] mt_235 (Nat.le_of_ble_eq_true rfl) rfl ?_
  refine ur_ldI rfl rfl ?_
  refine ur_push rfl ?_
  refine ur_if2 rfl (fun c1 => ?_) (fun c1 => ?_)
  · have t2 := eq_to c1
    refine ur_push rfl ?_
    refine ur_go rfl ?_
    exact ur_ret rfl rfl (hQ _ ⟨true, rfl, fun _ => by omega, fun e => absurd e (by decide)⟩ )
  · have t3 := eq_no c1
    refine ur_ldI rfl rfl ?_
    refine ur_push rfl ?_
    refine ur_if2 rfl (fun c4 => ?_) (fun c4 => ?_)
    · have t5 := ne_to c4
      refine ur_push rfl ?_
      exact ur_ret rfl rfl (hQ _ ⟨false, rfl, fun e => absurd e (by decide), fun _ => by omega⟩ )
    · have t6 := ne_no c4
      refine ur_push rfl ?_
      refine ur_go rfl ?_
      exact ur_ret rfl rfl (hQ _ ⟨true, rfl, fun _ => by omega, fun e => absurd e (by decide)⟩ )

set_option maxRecDepth 20000 in
set_option maxHeartbeats 4000000 in
theorem sg_isSided {d kc ks : Nat} {h0 : aH} {Q : Option aV → aH → Prop} (a0 : Int32) (hQ : ∀ r, (∃ q, r = some (.inl (bi q)) ∧ (q = true → a0.toInt = 2 ∨ a0.toInt = 7) ∧ (q = false → a0.toInt ≠ 2 ∧ a0.toInt ≠ 7)) → Q r h0) : uCall Mt (d + 1) 236 [(.inl a0)] h0 kc ks Q := by
  have l_0 : ((0) : Int32).toInt = 0 := by decide
  have l_1 : ((1) : Int32).toInt = 1 := by decide
  have l_2 : ((2) : Int32).toInt = 2 := by decide
  have l_7 : ((7) : Int32).toInt = 7 := by decide
  refine uc_ink [some (.inl a0)] mt_236 (Nat.le_of_ble_eq_true rfl) rfl ?_
  refine ur_ldI rfl rfl ?_
  refine ur_push rfl ?_
  refine ur_if2 rfl (fun c1 => ?_) (fun c1 => ?_)
  · have t2 := eq_to c1
    refine ur_push rfl ?_
    refine ur_go rfl ?_
    exact ur_ret rfl rfl (hQ _ ⟨true, rfl, fun _ => by omega, fun e => absurd e (by decide)⟩ )
  · have t3 := eq_no c1
    refine ur_ldI rfl rfl ?_
    refine ur_push rfl ?_
    refine ur_if2 rfl (fun c4 => ?_) (fun c4 => ?_)
    · have t5 := ne_to c4
      refine ur_push rfl ?_
      exact ur_ret rfl rfl (hQ _ ⟨false, rfl, fun e => absurd e (by decide), fun _ => by omega⟩ )
    · have t6 := ne_no c4
      refine ur_push rfl ?_
      refine ur_go rfl ?_
      exact ur_ret rfl rfl (hQ _ ⟨true, rfl, fun _ => by omega, fun e => absurd e (by decide)⟩ )

set_option maxRecDepth 20000 in
set_option maxHeartbeats 4000000 in
theorem sf_X12_newWord {d kc ks : Nat} {h0 : aH} {Q : Option aV → aH → Prop} (hO0 : OK h0) (hX0 : SX h0) (a1 : Int32) (b1 : 0 ≤ a1.toInt ∧ a1.toInt ≤ 7) (a2 : Int32) (b2 : 0 ≤ a2.toInt ∧ a2.toInt ≤ 8) (a3 : Int32) (a4 : Int32) (a5 : Int32) (a6 : Int32) (b6 : -1 ≤ a6.toInt ∧ a6.toInt ≤ 19) (a7 : Int32) (a8 : Int32) (pre0 : fI h0 38 ≤ 149) (pre1 : a1.toInt = 1 ∨ a1.toInt = 6 → 0 ≤ a8.toInt ∧ a8.toInt ≤ 23) (pre2 : a1.toInt = 2 ∨ a1.toInt = 7 → 0 ≤ a8.toInt ∧ a8.toInt ≤ 1) (pre3 : a1.toInt = 3 → 0 ≤ a8.toInt ∧ a8.toInt < fI h0 38) (hQ : ∀ r h', (∃ x, r = some (.inl x)) → OK h' → un [96, 97, 98, 99, 100, 101, 102, 103, 7938] h0 h' → (fI h' 38 = fI h0 38 + 1) → (SX h') → Q r h') : uCall Mt (d + 2) 238 [(.inr (.inr (some 69))), (.inl a1), (.inl a2), (.inl a3), (.inl a4), (.inl a5), (.inl a6), (.inl a7), (.inl a8)] h0 kc ks Q := by
  have l_m1 : ((-1) : Int32).toInt = -1 := by decide
  have l_1 : ((1) : Int32).toInt = 1 := by decide
  have l_3 : ((3) : Int32).toInt = 3 := by decide
  refine uc_ink [some (.inr (.inr (some 69))), some (.inl a1), some (.inl a2), some (.inl a3), some (.inl a4), some (.inl a5), some (.inl a6), some (.inl a7), some (.inl a8)] mt_238 (Nat.le_of_ble_eq_true rfl) rfl ?_
  obtain ⟨fs1, hc2⟩ := hO0.mod
  obtain ⟨f3, p4, t5⟩ := mf_38 hO0 hc2
  have t6 := fI_of hc2 p4
  obtain ⟨xs8, hc7, hn9, he10⟩ := hO0.int (hO0.fix 96 (by decide) rfl)
  obtain ⟨xs12, hc11, hn13, he14⟩ := hO0.int (hO0.fix 103 (by decide) rfl)
  refine ur_ldA rfl rfl ?_
  refine ur_get rfl hc2 (mf_39 hO0 hc2) ?_
  refine ur_ldA rfl rfl ?_
  refine ur_get rfl hc2 p4 ?_
  refine ur_ldI rfl rfl ?_
  refine ur_astV (W := [96]) (m := 150) rfl hO0 hc7 (by decide) hn9 (by omega) (by show 0 ≤ a1.toInt ∧ a1.toInt ≤ 7; omega) (Or.inr (Or.inr (wid_fix (by decide) (by decide)))) (fun h17 hO17 hv17 d15 hc16 => ?_)
  have hu17 : un [96, 97, 98, 99, 100, 101, 102, 103, 7938] h0 h17 := hv17.mono (by decide)
  refine ur_ldA rfl rfl ?_
  refine ur_get rfl ((d15 _ (by decide)).trans hc2) (mf_40 hO17 ((d15 _ (by decide)).trans hc2)) ?_
  refine ur_ldA rfl rfl ?_
  have t18 := fI_of ((d15 _ (by decide)).trans hc2) p4
  refine ur_get rfl ((d15 _ (by decide)).trans hc2) p4 ?_
  refine ur_ldI rfl rfl ?_
  obtain ⟨xs20, hc19, hn21, he22⟩ := hO17.int (hO17.fix 97 (by decide) rfl)
  refine ur_astV (W := [97]) (m := 150) rfl hO17 hc19 (by decide) hn21 (by omega) (by show 0 ≤ a2.toInt ∧ a2.toInt ≤ 8; omega) (Or.inr (Or.inr (wid_fix (by decide) (by decide)))) (fun h25 hO25 hv25 d23 hc24 => ?_)
  have hu25 : un [96, 97, 98, 99, 100, 101, 102, 103, 7938] h17 h25 := hv25.mono (by decide)
  refine ur_ldA rfl rfl ?_
  refine ur_get rfl ((d23 _ (by decide)).trans ((d15 _ (by decide)).trans hc2)) (mf_41 hO25 ((d23 _ (by decide)).trans ((d15 _ (by decide)).trans hc2))) ?_
  refine ur_ldA rfl rfl ?_
  have t26 := fI_of ((d23 _ (by decide)).trans ((d15 _ (by decide)).trans hc2)) p4
  refine ur_get rfl ((d23 _ (by decide)).trans ((d15 _ (by decide)).trans hc2)) p4 ?_
  refine ur_ldI rfl rfl ?_
  obtain ⟨xs28, hc27, hn29, he30⟩ := hO25.int (hO25.fix 98 (by decide) rfl)
  refine ur_astV (W := [98]) (m := 150) rfl hO25 hc27 (by decide) hn29 (by omega) (any_r _) (Or.inr (Or.inr (wid_fix (by decide) (by decide)))) (fun h33 hO33 hv33 d31 hc32 => ?_)
  have hu33 : un [96, 97, 98, 99, 100, 101, 102, 103, 7938] h25 h33 := hv33.mono (by decide)
  refine ur_ldA rfl rfl ?_
  have hc34 := ((d31 _ (by decide)).trans ((d23 _ (by decide)).trans ((d15 _ (by decide)).trans hc2)))
  refine ur_get rfl hc34 (mf_42 hO33 hc34) ?_
  refine ur_ldA rfl rfl ?_
  have t35 := fI_of hc34 p4
  refine ur_get rfl hc34 p4 ?_
  refine ur_ldI rfl rfl ?_
  obtain ⟨xs37, hc36, hn38, he39⟩ := hO33.int (hO33.fix 99 (by decide) rfl)
  refine ur_astV (W := [99]) (m := 150) rfl hO33 hc36 (by decide) hn38 (by omega) (any_r _) (Or.inr (Or.inr (wid_fix (by decide) (by decide)))) (fun h42 hO42 hv42 d40 hc41 => ?_)
  have hu42 : un [96, 97, 98, 99, 100, 101, 102, 103, 7938] h33 h42 := hv42.mono (by decide)
  refine ur_ldA rfl rfl ?_
  refine ur_get rfl ((d40 _ (by decide)).trans hc34) (mf_43 hO42 ((d40 _ (by decide)).trans hc34)) ?_
  refine ur_ldA rfl rfl ?_
  have t43 := fI_of ((d40 _ (by decide)).trans hc34) p4
  refine ur_get rfl ((d40 _ (by decide)).trans hc34) p4 ?_
  refine ur_ldI rfl rfl ?_
  obtain ⟨xs45, hc44, hn46, he47⟩ := hO42.int (hO42.fix 100 (by decide) rfl)
  refine ur_astV (W := [100]) (m := 150) rfl hO42 hc44 (by decide) hn46 (by omega) (any_r _) (Or.inr (Or.inr (wid_fix (by decide) (by decide)))) (fun h50 hO50 hv50 d48 hc49 => ?_)
  have hu50 : un [96, 97, 98, 99, 100, 101, 102, 103, 7938] h42 h50 := hv50.mono (by decide)
  refine ur_ldA rfl rfl ?_
  refine ur_get rfl ((d48 _ (by decide)).trans ((d40 _ (by decide)).trans hc34)) (mf_44 hO50 ((d48 _ (by decide)).trans ((d40 _ (by decide)).trans hc34))) ?_
  refine ur_ldA rfl rfl ?_
  have t51 := fI_of ((d48 _ (by decide)).trans ((d40 _ (by decide)).trans hc34)) p4
  refine ur_get rfl ((d48 _ (by decide)).trans ((d40 _ (by decide)).trans hc34)) p4 ?_
  refine ur_ldI rfl rfl ?_
  obtain ⟨xs53, hc52, hn54, he55⟩ := hO50.int (hO50.fix 101 (by decide) rfl)
  refine ur_astV (W := [101]) (m := 150) rfl hO50 hc52 (by decide) hn54 (by omega) (by show -1 ≤ a6.toInt ∧ a6.toInt ≤ 19; omega) (Or.inr (Or.inr (wid_fix (by decide) (by decide)))) (fun h58 hO58 hv58 d56 hc57 => ?_)
  have hu58 : un [96, 97, 98, 99, 100, 101, 102, 103, 7938] h50 h58 := hv58.mono (by decide)
  refine ur_ldA rfl rfl ?_
  have hc59 := ((d56 _ (by decide)).trans ((d48 _ (by decide)).trans ((d40 _ (by decide)).trans hc34)))
  refine ur_get rfl hc59 (mf_45 hO58 hc59) ?_
  refine ur_ldA rfl rfl ?_
  have t60 := fI_of hc59 p4
  refine ur_get rfl hc59 p4 ?_
  refine ur_ldI rfl rfl ?_
  obtain ⟨xs62, hc61, hn63, he64⟩ := hO58.int (hO58.fix 102 (by decide) rfl)
  refine ur_astV (W := [102]) (m := 150) rfl hO58 hc61 (by decide) hn63 (by omega) (any_r _) (Or.inr (Or.inr (wid_fix (by decide) (by decide)))) (fun h67 hO67 hv67 d65 hc66 => ?_)
  have hu67 : un [96, 97, 98, 99, 100, 101, 102, 103, 7938] h58 h67 := hv67.mono (by decide)
  refine ur_ldA rfl rfl ?_
  refine ur_get rfl ((d65 _ (by decide)).trans hc59) (mf_46 hO67 ((d65 _ (by decide)).trans hc59)) ?_
  refine ur_ldA rfl rfl ?_
  have t68 := fI_of ((d65 _ (by decide)).trans hc59) p4
  refine ur_get rfl ((d65 _ (by decide)).trans hc59) p4 ?_
  refine ur_ldI rfl rfl ?_
  refine ur_inl rfl rfl (Nat.le_of_ble_eq_true rfl) (Nat.le_of_ble_eq_true rfl) (sg_isLodged _ (fun w69 hr70 => ?_))
  obtain ⟨b71, rfl, t72, t73⟩ := hr70
  show uRun _ (uCall Mt _) _ 86 (_, [(.inl (bi b71)), (.inl f3), (.inr (.inr (some 103)))], _, _, _)
  refine ur_neB rfl (fun c74 => ?_) (fun c74 => ?_)
  · have t75 := t72 c74
    refine ur_ldI rfl rfl ?_
    refine ur_go rfl ?_
    refine ur_astV (W := [103]) (m := 150) rfl hO67 ((d65 _ (by decide)).trans ((d56 _ (by decide)).trans ((d48 _ (by decide)).trans ((d40 _ (by decide)).trans ((d31 _ (by decide)).trans ((d23 _ (by decide)).trans ((d15 _ (by decide)).trans hc11))))))) (by decide) hn13 (by omega) (by show -1 ≤ a8.toInt ∧ a8.toInt ≤ 149; omega) (Or.inr (Or.inr (wid_fix (by decide) (by decide)))) (fun h78 hO78 hv78 d76 hc77 => ?_)
    have hu78 : un [96, 97, 98, 99, 100, 101, 102, 103, 7938] h67 h78 := hv78.mono (by decide)
    refine ur_ldA rfl rfl ?_
    refine ur_dup rfl rfl ?_
    have t79 := fI_of ((d76 _ (by decide)).trans ((d65 _ (by decide)).trans hc59)) p4
    refine ur_get rfl ((d76 _ (by decide)).trans ((d65 _ (by decide)).trans hc59)) p4 ?_
    refine ur_push rfl ?_
    refine ur_binV rfl (fun x80 e81 => ?_)
    have z82 := any_r f3
    have t83 := ti_add e81 (by omega) (by omega)
    refine ur_putM (W := [7938]) rfl hO78 ((d76 _ (by decide)).trans ((d65 _ (by decide)).trans hc59)) (by decide) rfl (ms_38 (hO78.msh ((d76 _ (by decide)).trans ((d65 _ (by decide)).trans hc59))) (show 0 ≤ x80.toInt ∧ x80.toInt ≤ 150 by omega)) (Or.inr (by decide)) (fun h85 hO85 hv85 d84 hc86 => ?_)
    have hu85 : un [96, 97, 98, 99, 100, 101, 102, 103, 7938] h78 h85 := hv85.mono (by decide)
    have t87 := fI_of hc86 (gs_eq p4)
    refine ur_ldA rfl rfl ?_
    refine ur_get rfl hc86 (gs_eq p4) ?_
    refine ur_push rfl ?_
    refine ur_binV rfl (fun x88 e89 => ?_)
    have z90 := any_r x80
    have t91 := ti_sub e89 (by omega) (by omega)
    have hc92 := ((d84 _ (by decide)).trans ((d76 _ (by decide)).trans ((d65 _ (by decide)).trans ((d56 _ (by decide)).trans ((d48 _ (by decide)).trans ((d40 _ (by decide)).trans ((d31 _ (by decide)).trans ((d23 _ (by decide)).trans hc16))))))))
    exact ur_ret rfl rfl (hQ _ _ ⟨_, rfl⟩ hO85 (hu17.tr (hu25.tr (hu33.tr (hu42.tr (hu50.tr (hu58.tr (hu67.tr (hu78.tr hu85)))))))) (by omega) ⟨hX0.1.un hO0 hO85 (hu17.tr (hu25.tr (hu33.tr (hu42.tr (hu50.tr (hu58.tr (hu67.tr (hu78.tr hu85)))))))) (by decide) (by decide), hX0.2.1.un hO0 hO85 (hu17.tr (hu25.tr (hu33.tr (hu42.tr (hu50.tr (hu58.tr (hu67.tr (hu78.tr hu85)))))))) (by decide) (by decide), hX0.2.2.1.un hO0 hO85 (hu17.tr (hu25.tr (hu33.tr (hu42.tr (hu50.tr (hu58.tr (hu67.tr (hu78.tr hu85)))))))) (by decide) (by decide), WX.push (j := f3) (x := a1) (y := a8) hX0.2.2.2.1 hc7 hc92 hc11 ((d84 _ (by decide)).trans hc77) (by omega) (by omega) (by omega) (by omega), hX0.2.2.2.2.un hO0 (hu17.tr (hu25.tr (hu33.tr (hu42.tr (hu50.tr (hu58.tr (hu67.tr (hu78.tr hu85)))))))) (by decide)⟩)
  · have t93 := t73 c74
    refine ur_ldI rfl rfl ?_
    refine ur_inl rfl rfl (Nat.le_of_ble_eq_true rfl) (Nat.le_of_ble_eq_true rfl) (sg_isSided _ (fun w94 hr95 => ?_))
    obtain ⟨b96, rfl, t97, t98⟩ := hr95
    show uRun _ (uCall Mt _) _ 93 (_, [(.inl (bi b96)), (.inl f3), (.inr (.inr (some 103)))], _, _, _)
    refine ur_neB rfl (fun c99 => ?_) (fun c99 => ?_)
    · have t100 := t97 c99
      refine ur_ldI rfl rfl ?_
      refine ur_go rfl ?_
      refine ur_astV (W := [103]) (m := 150) rfl hO67 ((d65 _ (by decide)).trans ((d56 _ (by decide)).trans ((d48 _ (by decide)).trans ((d40 _ (by decide)).trans ((d31 _ (by decide)).trans ((d23 _ (by decide)).trans ((d15 _ (by decide)).trans hc11))))))) (by decide) hn13 (by omega) (by show -1 ≤ a8.toInt ∧ a8.toInt ≤ 149; omega) (Or.inr (Or.inr (wid_fix (by decide) (by decide)))) (fun h103 hO103 hv103 d101 hc102 => ?_)
      have hu103 : un [96, 97, 98, 99, 100, 101, 102, 103, 7938] h67 h103 := hv103.mono (by decide)
      refine ur_ldA rfl rfl ?_
      refine ur_dup rfl rfl ?_
      have hc104 := ((d101 _ (by decide)).trans ((d65 _ (by decide)).trans hc59))
      have t105 := fI_of hc104 p4
      refine ur_get rfl hc104 p4 ?_
      refine ur_push rfl ?_
      refine ur_binV rfl (fun x106 e107 => ?_)
      have z108 := any_r f3
      have t109 := ti_add e107 (by omega) (by omega)
      refine ur_putM (W := [7938]) rfl hO103 hc104 (by decide) rfl (ms_38 (hO103.msh hc104) (show 0 ≤ x106.toInt ∧ x106.toInt ≤ 150 by omega)) (Or.inr (by decide)) (fun h111 hO111 hv111 d110 hc112 => ?_)
      have hu111 : un [96, 97, 98, 99, 100, 101, 102, 103, 7938] h103 h111 := hv111.mono (by decide)
      have t113 := fI_of hc112 (gs_eq p4)
      refine ur_ldA rfl rfl ?_
      refine ur_get rfl hc112 (gs_eq p4) ?_
      refine ur_push rfl ?_
      refine ur_binV rfl (fun x114 e115 => ?_)
      have z116 := any_r x106
      have t117 := ti_sub e115 (by omega) (by omega)
      have hc118 := ((d110 _ (by decide)).trans ((d101 _ (by decide)).trans ((d65 _ (by decide)).trans ((d56 _ (by decide)).trans ((d48 _ (by decide)).trans ((d40 _ (by decide)).trans ((d31 _ (by decide)).trans ((d23 _ (by decide)).trans hc16))))))))
      exact ur_ret rfl rfl (hQ _ _ ⟨_, rfl⟩ hO111 (hu17.tr (hu25.tr (hu33.tr (hu42.tr (hu50.tr (hu58.tr (hu67.tr (hu103.tr hu111)))))))) (by omega) ⟨hX0.1.un hO0 hO111 (hu17.tr (hu25.tr (hu33.tr (hu42.tr (hu50.tr (hu58.tr (hu67.tr (hu103.tr hu111)))))))) (by decide) (by decide), hX0.2.1.un hO0 hO111 (hu17.tr (hu25.tr (hu33.tr (hu42.tr (hu50.tr (hu58.tr (hu67.tr (hu103.tr hu111)))))))) (by decide) (by decide), hX0.2.2.1.un hO0 hO111 (hu17.tr (hu25.tr (hu33.tr (hu42.tr (hu50.tr (hu58.tr (hu67.tr (hu103.tr hu111)))))))) (by decide) (by decide), WX.push (j := f3) (x := a1) (y := a8) hX0.2.2.2.1 hc7 hc118 hc11 ((d110 _ (by decide)).trans hc102) (by omega) (by omega) (by omega) (by omega), hX0.2.2.2.2.un hO0 (hu17.tr (hu25.tr (hu33.tr (hu42.tr (hu50.tr (hu58.tr (hu67.tr (hu103.tr hu111)))))))) (by decide)⟩)
    · have t119 := t98 c99
      refine ur_ldI rfl rfl ?_
      refine ur_push rfl ?_
      refine ur_if2 rfl (fun c120 => ?_) (fun c120 => ?_)
      · have t121 := ne_to c120
        refine ur_push rfl ?_
        refine ur_astV (W := [103]) (m := 150) rfl hO67 ((d65 _ (by decide)).trans ((d56 _ (by decide)).trans ((d48 _ (by decide)).trans ((d40 _ (by decide)).trans ((d31 _ (by decide)).trans ((d23 _ (by decide)).trans ((d15 _ (by decide)).trans hc11))))))) (by decide) hn13 (by omega) (by show -1 ≤ ((-1) : Int32).toInt ∧ ((-1) : Int32).toInt ≤ 149; omega) (Or.inr (Or.inr (wid_fix (by decide) (by decide)))) (fun h124 hO124 hv124 d122 hc123 => ?_)
        have hu124 : un [96, 97, 98, 99, 100, 101, 102, 103, 7938] h67 h124 := hv124.mono (by decide)
        refine ur_ldA rfl rfl ?_
        refine ur_dup rfl rfl ?_
        have hc125 := ((d122 _ (by decide)).trans ((d65 _ (by decide)).trans hc59))
        have t126 := fI_of hc125 p4
        refine ur_get rfl hc125 p4 ?_
        refine ur_push rfl ?_
        refine ur_binV rfl (fun x127 e128 => ?_)
        have z129 := any_r f3
        have t130 := ti_add e128 (by omega) (by omega)
        refine ur_putM (W := [7938]) rfl hO124 hc125 (by decide) rfl (ms_38 (hO124.msh hc125) (show 0 ≤ x127.toInt ∧ x127.toInt ≤ 150 by omega)) (Or.inr (by decide)) (fun h132 hO132 hv132 d131 hc133 => ?_)
        have hu132 : un [96, 97, 98, 99, 100, 101, 102, 103, 7938] h124 h132 := hv132.mono (by decide)
        have t134 := fI_of hc133 (gs_eq p4)
        refine ur_ldA rfl rfl ?_
        refine ur_get rfl hc133 (gs_eq p4) ?_
        refine ur_push rfl ?_
        refine ur_binV rfl (fun x135 e136 => ?_)
        have z137 := any_r x127
        have t138 := ti_sub e136 (by omega) (by omega)
        have hc139 := ((d131 _ (by decide)).trans ((d122 _ (by decide)).trans ((d65 _ (by decide)).trans ((d56 _ (by decide)).trans ((d48 _ (by decide)).trans ((d40 _ (by decide)).trans ((d31 _ (by decide)).trans ((d23 _ (by decide)).trans hc16))))))))
        exact ur_ret rfl rfl (hQ _ _ ⟨_, rfl⟩ hO132 (hu17.tr (hu25.tr (hu33.tr (hu42.tr (hu50.tr (hu58.tr (hu67.tr (hu124.tr hu132)))))))) (by omega) ⟨hX0.1.un hO0 hO132 (hu17.tr (hu25.tr (hu33.tr (hu42.tr (hu50.tr (hu58.tr (hu67.tr (hu124.tr hu132)))))))) (by decide) (by decide), hX0.2.1.un hO0 hO132 (hu17.tr (hu25.tr (hu33.tr (hu42.tr (hu50.tr (hu58.tr (hu67.tr (hu124.tr hu132)))))))) (by decide) (by decide), hX0.2.2.1.un hO0 hO132 (hu17.tr (hu25.tr (hu33.tr (hu42.tr (hu50.tr (hu58.tr (hu67.tr (hu124.tr hu132)))))))) (by decide) (by decide), WX.push (j := f3) (x := a1) (y := (-1)) hX0.2.2.2.1 hc7 hc139 hc11 ((d131 _ (by decide)).trans hc123) (by omega) (by omega) (by omega) (by omega), hX0.2.2.2.2.un hO0 (hu17.tr (hu25.tr (hu33.tr (hu42.tr (hu50.tr (hu58.tr (hu67.tr (hu124.tr hu132)))))))) (by decide)⟩)
      · have t140 := ne_no c120
        refine ur_ldI rfl rfl ?_
        refine ur_go rfl ?_
        refine ur_astV (W := [103]) (m := 150) rfl hO67 ((d65 _ (by decide)).trans ((d56 _ (by decide)).trans ((d48 _ (by decide)).trans ((d40 _ (by decide)).trans ((d31 _ (by decide)).trans ((d23 _ (by decide)).trans ((d15 _ (by decide)).trans hc11))))))) (by decide) hn13 (by omega) (by show -1 ≤ a8.toInt ∧ a8.toInt ≤ 149; omega) (Or.inr (Or.inr (wid_fix (by decide) (by decide)))) (fun h143 hO143 hv143 d141 hc142 => ?_)
        have hu143 : un [96, 97, 98, 99, 100, 101, 102, 103, 7938] h67 h143 := hv143.mono (by decide)
        refine ur_ldA rfl rfl ?_
        refine ur_dup rfl rfl ?_
        have hc144 := ((d141 _ (by decide)).trans ((d65 _ (by decide)).trans hc59))
        have t145 := fI_of hc144 p4
        refine ur_get rfl hc144 p4 ?_
        refine ur_push rfl ?_
        refine ur_binV rfl (fun x146 e147 => ?_)
        have z148 := any_r f3
        have t149 := ti_add e147 (by omega) (by omega)
        refine ur_putM (W := [7938]) rfl hO143 hc144 (by decide) rfl (ms_38 (hO143.msh hc144) (show 0 ≤ x146.toInt ∧ x146.toInt ≤ 150 by omega)) (Or.inr (by decide)) (fun h151 hO151 hv151 d150 hc152 => ?_)
        have hu151 : un [96, 97, 98, 99, 100, 101, 102, 103, 7938] h143 h151 := hv151.mono (by decide)
        have t153 := fI_of hc152 (gs_eq p4)
        refine ur_ldA rfl rfl ?_
        refine ur_get rfl hc152 (gs_eq p4) ?_
        refine ur_push rfl ?_
        refine ur_binV rfl (fun x154 e155 => ?_)
        have z156 := any_r x146
        have t157 := ti_sub e155 (by omega) (by omega)
        have hc158 := ((d150 _ (by decide)).trans ((d141 _ (by decide)).trans ((d65 _ (by decide)).trans ((d56 _ (by decide)).trans ((d48 _ (by decide)).trans ((d40 _ (by decide)).trans ((d31 _ (by decide)).trans ((d23 _ (by decide)).trans hc16))))))))
        exact ur_ret rfl rfl (hQ _ _ ⟨_, rfl⟩ hO151 (hu17.tr (hu25.tr (hu33.tr (hu42.tr (hu50.tr (hu58.tr (hu67.tr (hu143.tr hu151)))))))) (by omega) ⟨hX0.1.un hO0 hO151 (hu17.tr (hu25.tr (hu33.tr (hu42.tr (hu50.tr (hu58.tr (hu67.tr (hu143.tr hu151)))))))) (by decide) (by decide), hX0.2.1.un hO0 hO151 (hu17.tr (hu25.tr (hu33.tr (hu42.tr (hu50.tr (hu58.tr (hu67.tr (hu143.tr hu151)))))))) (by decide) (by decide), hX0.2.2.1.un hO0 hO151 (hu17.tr (hu25.tr (hu33.tr (hu42.tr (hu50.tr (hu58.tr (hu67.tr (hu143.tr hu151)))))))) (by decide) (by decide), WX.push (j := f3) (x := a1) (y := a8) hX0.2.2.2.1 hc7 hc158 hc11 ((d150 _ (by decide)).trans hc142) (by omega) (by omega) (by omega) (by omega), hX0.2.2.2.2.un hO0 (hu17.tr (hu25.tr (hu33.tr (hu42.tr (hu50.tr (hu58.tr (hu67.tr (hu143.tr hu151)))))))) (by decide)⟩)

set_option maxRecDepth 20000 in
set_option maxHeartbeats 4000000 in
theorem sf_X12_word {d kc ks : Nat} {h0 : aH} {Q : Option aV → aH → Prop} (hO0 : OK h0) (hX0 : SX h0) (a1 : Int32) (a2 : Int32) (a3 : Int32) (hQ : ∀ r h', (∃ x, r = some (.inl x)) → OK h' → un [96, 97, 98, 99, 100, 101, 102, 103, 7938] h0 h' → (fI h' 38 ≤ fI h0 38 + 1) → (SX h') → Q r h') : uCall Mt (d + 3) 239 [(.inr (.inr (some 69))), (.inl a1), (.inl a2), (.inl a3)] h0 kc ks Q := by
  have l_m3 : ((-3) : Int32).toInt = -3 := by decide
  have l_m1 : ((-1) : Int32).toInt = -1 := by decide
  have l_0 : ((0) : Int32).toInt = 0 := by decide
  have l_1 : ((1) : Int32).toInt = 1 := by decide
  have l_3 : ((3) : Int32).toInt = 3 := by decide
  have l_7 : ((7) : Int32).toInt = 7 := by decide
  have l_8 : ((8) : Int32).toInt = 8 := by decide
  have l_20 : ((20) : Int32).toInt = 20 := by decide
  have l_23 : ((23) : Int32).toInt = 23 := by decide
  have l_99 : ((99) : Int32).toInt = 99 := by decide
  have l_100 : ((100) : Int32).toInt = 100 := by decide
  have l_150 : ((150) : Int32).toInt = 150 := by decide
  have l_400 : ((400) : Int32).toInt = 400 := by decide
  have l_10000 : ((10000) : Int32).toInt = 10000 := by decide
  refine uc_ink [some (.inr (.inr (some 69))), some (.inl a1), some (.inl a2), some (.inl a3), none, none, none] mt_239 (Nat.le_of_ble_eq_true rfl) rfl ?_
  obtain ⟨fs1, hc2⟩ := hO0.mod
  obtain ⟨f3, p4, t5⟩ := mf_38 hO0 hc2
  have t6 := fI_of hc2 p4
  refine ur_ldI rfl rfl ?_
  refine ur_push rfl ?_
  refine ur_divV rfl (by decide) (fun x7 e8 => ?_)
  have z9 := any_r a1
  have t10 : 0 ≤ a1.toInt → x7.toInt = a1.toInt / 10000 := fun q => ti_div e8 l_10000 (by decide) q
  refine ur_svIk [some (.inr (.inr (some 69))), some (.inl a1), some (.inl a2), some (.inl a3), some (.inl x7), none, none] rfl rfl ?_
  refine ur_ldI rfl rfl ?_
  refine ur_push rfl ?_
  refine ur_divV rfl (by decide) (fun x11 e12 => ?_)
  have t13 : 0 ≤ a1.toInt → x11.toInt = a1.toInt / 100 := fun q => ti_div e12 l_100 (by decide) q
  refine ur_push rfl ?_
  refine ur_divV rfl (by decide) (fun x14 e15 => ?_)
  have z16 := any_r x11
  have t17 : 0 ≤ x11.toInt → x14.toInt = x11.toInt % 100 := fun q => ti_rem e15 l_100 (by decide) q
  refine ur_svIk [some (.inr (.inr (some 69))), some (.inl a1), some (.inl a2), some (.inl a3), some (.inl x7), some (.inl x14), none] rfl rfl ?_
  refine ur_ldI rfl rfl ?_
  refine ur_push rfl ?_
  refine ur_divV rfl (by decide) (fun x18 e19 => ?_)
  have t20 : 0 ≤ a1.toInt → x18.toInt = a1.toInt % 100 := fun q => ti_rem e19 l_100 (by decide) q
  refine ur_svIk [some (.inr (.inr (some 69))), some (.inl a1), some (.inl a2), some (.inl a3), some (.inl x7), some (.inl x14), some (.inl x18)] rfl rfl ?_
  refine ur_ldI rfl rfl ?_
  refine ur_if1 rfl (fun c21 => ?_) (fun c21 => ?_)
  · have t22 := lt_to c21
    refine ur_push rfl ?_
    exact ur_ret rfl rfl (hQ _ _ ⟨_, rfl⟩ hO0 un.rf (by omega) hX0)
  · have t23 := lt_no c21
    refine ur_ldI rfl rfl ?_
    refine ur_callv rfl rfl (Nat.le_of_ble_eq_true rfl) (Nat.le_of_ble_eq_true rfl) rfl (sq_isPpl _ _) ?_
    refine ur_eqB rfl (fun c26 => ?_) (fun c26 => ?_)
    · have t27 := wi_noL c26 l_0 l_8
      refine ur_push rfl ?_
      exact ur_ret rfl rfl (hQ _ _ ⟨_, rfl⟩ hO0 un.rf (by omega) hX0)
    · have t28 := wi_toL c26 l_0 l_8
      refine ur_ldI rfl rfl ?_
      refine ur_push rfl ?_
      refine ur_push rfl ?_
      refine ur_callv rfl rfl (Nat.le_of_ble_eq_true rfl) (Nat.le_of_ble_eq_true rfl) rfl (sp_in _ _ _ _ _) ?_
      refine ur_eqB rfl (fun c31 => ?_) (fun c31 => ?_)
      · have t32 := wi_noL c31 l_0 l_7
        refine ur_push rfl ?_
        exact ur_ret rfl rfl (hQ _ _ ⟨_, rfl⟩ hO0 un.rf (by omega) hX0)
      · have t33 := wi_toL c31 l_0 l_7
        refine ur_ldI rfl rfl ?_
        refine ur_push rfl ?_
        refine ur_if2 rfl (fun c34 => ?_) (fun c34 => ?_)
        · have t35 := eq_to c34
          refine ur_ldI rfl rfl ?_
          refine ur_push rfl ?_
          refine ur_push rfl ?_
          refine ur_callv rfl rfl (Nat.le_of_ble_eq_true rfl) (Nat.le_of_ble_eq_true rfl) rfl (sp_in _ _ _ _ _) ?_
          refine ur_neB rfl (fun c38 => ?_) (fun c38 => ?_)
          · have t39 := wi_toL c38 l_0 l_400
            refine ur_ldI rfl rfl ?_
            refine ur_inl rfl rfl (Nat.le_of_ble_eq_true rfl) (Nat.le_of_ble_eq_true rfl) (sg_isLodged _ (fun w40 hr41 => ?_))
            obtain ⟨b42, rfl, t43, t44⟩ := hr41
            show uRun _ (uCall Mt _) _ 87 (_, [(.inl (bi b42))], _, _, _)
            refine ur_eqB rfl (fun c45 => ?_) (fun c45 => ?_)
            · have t46 := t44 c45
              refine ur_ldI rfl rfl ?_
              refine ur_inl rfl rfl (Nat.le_of_ble_eq_true rfl) (Nat.le_of_ble_eq_true rfl) (sg_isSided _ (fun w47 hr48 => ?_))
              obtain ⟨b49, rfl, t50, t51⟩ := hr48
              show uRun _ (uCall Mt _) _ 105 (_, [(.inl (bi b49))], _, _, _)
              refine ur_eqB rfl (fun c52 => ?_) (fun c52 => ?_)
              · have t53 := t51 c52
                refine ur_ldI rfl rfl ?_
                refine ur_push rfl ?_
                refine ur_if2 rfl (fun c54 => ?_) (fun c54 => ?_)
                · have t55 := ne_to c54
                  refine ur_ldA rfl rfl ?_
                  refine ur_get rfl hc2 p4 ?_
                  refine ur_push rfl ?_
                  refine ur_if2 rfl (fun c56 => ?_) (fun c56 => ?_)
                  · have t57 := ne_to c56
                    refine ur_ldA rfl rfl ?_
                    refine ur_ldI rfl rfl ?_
                    refine ur_ldI rfl rfl ?_
                    refine ur_ldA rfl rfl ?_
                    obtain ⟨f58, p59⟩ := mf_47 hO0 hc2
                    refine ur_get rfl hc2 p59 ?_
                    refine ur_ldA rfl rfl ?_
                    obtain ⟨f60, p61⟩ := mf_48 hO0 hc2
                    refine ur_get rfl hc2 p61 ?_
                    refine ur_ldA rfl rfl ?_
                    obtain ⟨f62, p63⟩ := mf_49 hO0 hc2
                    refine ur_get rfl hc2 p63 ?_
                    refine ur_ldI rfl rfl ?_
                    refine ur_push rfl ?_
                    refine ur_if2 rfl (fun c64 => ?_) (fun c64 => ?_)
                    · have t65 := ne_to c64
                      exfalso
                      omega
                    · have t66 := ne_no c64
                      refine ur_push rfl ?_
                      refine ur_go rfl ?_
                      refine ur_ldI rfl rfl ?_
                      refine ur_ldI rfl rfl ?_
                      refine ur_inl rfl (rcv_of hc2) (Nat.le_of_ble_eq_true rfl) (Nat.le_of_ble_eq_true rfl) (sf_X12_newWord hO0 hX0 _ (by show 0 ≤ x14.toInt ∧ x14.toInt ≤ 7; omega) _ (by show 0 ≤ x7.toInt ∧ x7.toInt ≤ 8; omega) _ _ _ _ (by show -1 ≤ ((-1) : Int32).toInt ∧ ((-1) : Int32).toInt ≤ 19; omega) _ _ (by omega) (by omega) (by omega) (by omega) (fun w67 h71 hr68 hO71 hv71 hp69 hp70 => ?_))
                      have hu71 := hv71
                      obtain ⟨x72, rfl⟩ := hr68
                      show uRun _ (uCall Mt _) _ 181 (_, [(.inl x72)], _, _, _)
                      obtain ⟨fs73, hc74⟩ := hO71.mod
                      obtain ⟨f75, p76, t77⟩ := mf_38 hO71 hc74
                      have t78 := fI_of hc74 p76
                      exact ur_ret rfl rfl (hQ _ _ ⟨_, rfl⟩ hO71 hu71 (by omega) hp70)
                  · have t79 := ne_no c56
                    refine ur_push rfl ?_
                    exact ur_ret rfl rfl (hQ _ _ ⟨_, rfl⟩ hO0 un.rf (by omega) hX0)
                · have t80 := ne_no c54
                  refine ur_ldA rfl rfl ?_
                  refine ur_ldI rfl rfl ?_
                  refine ur_inl rfl (rcv_of hc2) (Nat.le_of_ble_eq_true rfl) (Nat.le_of_ble_eq_true rfl) (sg_isWord hO0 _ (fun w81 hr82 => ?_))
                  obtain ⟨b83, rfl, t84⟩ := hr82
                  show uRun _ (uCall Mt _) _ 128 (_, [(.inl (bi b83))], _, _, _)
                  refine ur_neB rfl (fun c85 => ?_) (fun c85 => ?_)
                  · have t86 := t84 c85
                    refine ur_ldA rfl rfl ?_
                    refine ur_get rfl hc2 p4 ?_
                    refine ur_push rfl ?_
                    refine ur_if2 rfl (fun c87 => ?_) (fun c87 => ?_)
                    · have t88 := ne_to c87
                      refine ur_ldA rfl rfl ?_
                      refine ur_ldI rfl rfl ?_
                      refine ur_ldI rfl rfl ?_
                      refine ur_ldA rfl rfl ?_
                      obtain ⟨f89, p90⟩ := mf_47 hO0 hc2
                      refine ur_get rfl hc2 p90 ?_
                      refine ur_ldA rfl rfl ?_
                      obtain ⟨f91, p92⟩ := mf_48 hO0 hc2
                      refine ur_get rfl hc2 p92 ?_
                      refine ur_ldA rfl rfl ?_
                      obtain ⟨f93, p94⟩ := mf_49 hO0 hc2
                      refine ur_get rfl hc2 p94 ?_
                      refine ur_ldI rfl rfl ?_
                      refine ur_push rfl ?_
                      refine ur_if2 rfl (fun c95 => ?_) (fun c95 => ?_)
                      · have t96 := ne_to c95
                        exfalso
                        omega
                      · have t97 := ne_no c95
                        refine ur_push rfl ?_
                        refine ur_go rfl ?_
                        refine ur_ldI rfl rfl ?_
                        refine ur_ldI rfl rfl ?_
                        refine ur_inl rfl (rcv_of hc2) (Nat.le_of_ble_eq_true rfl) (Nat.le_of_ble_eq_true rfl) (sf_X12_newWord hO0 hX0 _ (by show 0 ≤ x14.toInt ∧ x14.toInt ≤ 7; omega) _ (by show 0 ≤ x7.toInt ∧ x7.toInt ≤ 8; omega) _ _ _ _ (by show -1 ≤ ((-1) : Int32).toInt ∧ ((-1) : Int32).toInt ≤ 19; omega) _ _ (by omega) (by omega) (by omega) (by omega) (fun w98 h102 hr99 hO102 hv102 hp100 hp101 => ?_))
                        have hu102 := hv102
                        obtain ⟨x103, rfl⟩ := hr99
                        show uRun _ (uCall Mt _) _ 181 (_, [(.inl x103)], _, _, _)
                        obtain ⟨fs104, hc105⟩ := hO102.mod
                        obtain ⟨f106, p107, t108⟩ := mf_38 hO102 hc105
                        have t109 := fI_of hc105 p107
                        exact ur_ret rfl rfl (hQ _ _ ⟨_, rfl⟩ hO102 hu102 (by omega) hp101)
                    · have t110 := ne_no c87
                      refine ur_push rfl ?_
                      exact ur_ret rfl rfl (hQ _ _ ⟨_, rfl⟩ hO0 un.rf (by omega) hX0)
                  · refine ur_push rfl ?_
                    exact ur_ret rfl rfl (hQ _ _ ⟨_, rfl⟩ hO0 un.rf (by omega) hX0)
              · have t111 := t50 c52
                refine ur_ldI rfl rfl ?_
                refine ur_push rfl ?_
                refine ur_push rfl ?_
                refine ur_callv rfl rfl (Nat.le_of_ble_eq_true rfl) (Nat.le_of_ble_eq_true rfl) rfl (sp_in _ _ _ _ _) ?_
                refine ur_eqB rfl (fun c114 => ?_) (fun c114 => ?_)
                · have t115 := wi_noL c114 l_0 l_1
                  refine ur_push rfl ?_
                  exact ur_ret rfl rfl (hQ _ _ ⟨_, rfl⟩ hO0 un.rf (by omega) hX0)
                · have t116 := wi_toL c114 l_0 l_1
                  refine ur_ldI rfl rfl ?_
                  refine ur_push rfl ?_
                  refine ur_if2 rfl (fun c117 => ?_) (fun c117 => ?_)
                  · have t118 := ne_to c117
                    refine ur_ldA rfl rfl ?_
                    refine ur_get rfl hc2 p4 ?_
                    refine ur_push rfl ?_
                    refine ur_if2 rfl (fun c119 => ?_) (fun c119 => ?_)
                    · have t120 := ne_to c119
                      refine ur_ldA rfl rfl ?_
                      refine ur_ldI rfl rfl ?_
                      refine ur_ldI rfl rfl ?_
                      refine ur_ldA rfl rfl ?_
                      obtain ⟨f121, p122⟩ := mf_47 hO0 hc2
                      refine ur_get rfl hc2 p122 ?_
                      refine ur_ldA rfl rfl ?_
                      obtain ⟨f123, p124⟩ := mf_48 hO0 hc2
                      refine ur_get rfl hc2 p124 ?_
                      refine ur_ldA rfl rfl ?_
                      obtain ⟨f125, p126⟩ := mf_49 hO0 hc2
                      refine ur_get rfl hc2 p126 ?_
                      refine ur_ldI rfl rfl ?_
                      refine ur_push rfl ?_
                      refine ur_if2 rfl (fun c127 => ?_) (fun c127 => ?_)
                      · have t128 := ne_to c127
                        exfalso
                        omega
                      · have t129 := ne_no c127
                        refine ur_push rfl ?_
                        refine ur_go rfl ?_
                        refine ur_ldI rfl rfl ?_
                        refine ur_ldI rfl rfl ?_
                        refine ur_inl rfl (rcv_of hc2) (Nat.le_of_ble_eq_true rfl) (Nat.le_of_ble_eq_true rfl) (sf_X12_newWord hO0 hX0 _ (by show 0 ≤ x14.toInt ∧ x14.toInt ≤ 7; omega) _ (by show 0 ≤ x7.toInt ∧ x7.toInt ≤ 8; omega) _ _ _ _ (by show -1 ≤ ((-1) : Int32).toInt ∧ ((-1) : Int32).toInt ≤ 19; omega) _ _ (by omega) (by omega) (by omega) (by omega) (fun w130 h134 hr131 hO134 hv134 hp132 hp133 => ?_))
                        have hu134 := hv134
                        obtain ⟨x135, rfl⟩ := hr131
                        show uRun _ (uCall Mt _) _ 181 (_, [(.inl x135)], _, _, _)
                        obtain ⟨fs136, hc137⟩ := hO134.mod
                        obtain ⟨f138, p139, t140⟩ := mf_38 hO134 hc137
                        have t141 := fI_of hc137 p139
                        exact ur_ret rfl rfl (hQ _ _ ⟨_, rfl⟩ hO134 hu134 (by omega) hp133)
                    · have t142 := ne_no c119
                      refine ur_push rfl ?_
                      exact ur_ret rfl rfl (hQ _ _ ⟨_, rfl⟩ hO0 un.rf (by omega) hX0)
                  · have t143 := ne_no c117
                    refine ur_ldA rfl rfl ?_
                    refine ur_ldI rfl rfl ?_
                    refine ur_inl rfl (rcv_of hc2) (Nat.le_of_ble_eq_true rfl) (Nat.le_of_ble_eq_true rfl) (sg_isWord hO0 _ (fun w144 hr145 => ?_))
                    obtain ⟨b146, rfl, t147⟩ := hr145
                    show uRun _ (uCall Mt _) _ 128 (_, [(.inl (bi b146))], _, _, _)
                    refine ur_neB rfl (fun c148 => ?_) (fun c148 => ?_)
                    · have t149 := t147 c148
                      refine ur_ldA rfl rfl ?_
                      refine ur_get rfl hc2 p4 ?_
                      refine ur_push rfl ?_
                      refine ur_if2 rfl (fun c150 => ?_) (fun c150 => ?_)
                      · have t151 := ne_to c150
                        refine ur_ldA rfl rfl ?_
                        refine ur_ldI rfl rfl ?_
                        refine ur_ldI rfl rfl ?_
                        refine ur_ldA rfl rfl ?_
                        obtain ⟨f152, p153⟩ := mf_47 hO0 hc2
                        refine ur_get rfl hc2 p153 ?_
                        refine ur_ldA rfl rfl ?_
                        obtain ⟨f154, p155⟩ := mf_48 hO0 hc2
                        refine ur_get rfl hc2 p155 ?_
                        refine ur_ldA rfl rfl ?_
                        obtain ⟨f156, p157⟩ := mf_49 hO0 hc2
                        refine ur_get rfl hc2 p157 ?_
                        refine ur_ldI rfl rfl ?_
                        refine ur_push rfl ?_
                        refine ur_if2 rfl (fun c158 => ?_) (fun c158 => ?_)
                        · have t159 := ne_to c158
                          exfalso
                          omega
                        · have t160 := ne_no c158
                          refine ur_push rfl ?_
                          refine ur_go rfl ?_
                          refine ur_ldI rfl rfl ?_
                          refine ur_ldI rfl rfl ?_
                          refine ur_inl rfl (rcv_of hc2) (Nat.le_of_ble_eq_true rfl) (Nat.le_of_ble_eq_true rfl) (sf_X12_newWord hO0 hX0 _ (by show 0 ≤ x14.toInt ∧ x14.toInt ≤ 7; omega) _ (by show 0 ≤ x7.toInt ∧ x7.toInt ≤ 8; omega) _ _ _ _ (by show -1 ≤ ((-1) : Int32).toInt ∧ ((-1) : Int32).toInt ≤ 19; omega) _ _ (by omega) (by omega) (by omega) (by omega) (fun w161 h165 hr162 hO165 hv165 hp163 hp164 => ?_))
                          have hu165 := hv165
                          obtain ⟨x166, rfl⟩ := hr162
                          show uRun _ (uCall Mt _) _ 181 (_, [(.inl x166)], _, _, _)
                          obtain ⟨fs167, hc168⟩ := hO165.mod
                          obtain ⟨f169, p170, t171⟩ := mf_38 hO165 hc168
                          have t172 := fI_of hc168 p170
                          exact ur_ret rfl rfl (hQ _ _ ⟨_, rfl⟩ hO165 hu165 (by omega) hp164)
                      · have t173 := ne_no c150
                        refine ur_push rfl ?_
                        exact ur_ret rfl rfl (hQ _ _ ⟨_, rfl⟩ hO0 un.rf (by omega) hX0)
                    · refine ur_push rfl ?_
                      exact ur_ret rfl rfl (hQ _ _ ⟨_, rfl⟩ hO0 un.rf (by omega) hX0)
            · have t174 := t43 c45
              refine ur_ldI rfl rfl ?_
              refine ur_push rfl ?_
              refine ur_push rfl ?_
              refine ur_callv rfl rfl (Nat.le_of_ble_eq_true rfl) (Nat.le_of_ble_eq_true rfl) rfl (sp_in _ _ _ _ _) ?_
              refine ur_eqB rfl (fun c177 => ?_) (fun c177 => ?_)
              · have t178 := wi_noL c177 l_0 l_23
                refine ur_push rfl ?_
                exact ur_ret rfl rfl (hQ _ _ ⟨_, rfl⟩ hO0 un.rf (by omega) hX0)
              · have t179 := wi_toL c177 l_0 l_23
                refine ur_ldI rfl rfl ?_
                refine ur_inl rfl rfl (Nat.le_of_ble_eq_true rfl) (Nat.le_of_ble_eq_true rfl) (sg_isSided _ (fun w180 hr181 => ?_))
                obtain ⟨b182, rfl, t183, t184⟩ := hr181
                show uRun _ (uCall Mt _) _ 105 (_, [(.inl (bi b182))], _, _, _)
                refine ur_eqB rfl (fun c185 => ?_) (fun c185 => ?_)
                · have t186 := t184 c185
                  refine ur_ldI rfl rfl ?_
                  refine ur_push rfl ?_
                  refine ur_if2 rfl (fun c187 => ?_) (fun c187 => ?_)
                  · have t188 := ne_to c187
                    refine ur_ldA rfl rfl ?_
                    refine ur_get rfl hc2 p4 ?_
                    refine ur_push rfl ?_
                    refine ur_if2 rfl (fun c189 => ?_) (fun c189 => ?_)
                    · have t190 := ne_to c189
                      refine ur_ldA rfl rfl ?_
                      refine ur_ldI rfl rfl ?_
                      refine ur_ldI rfl rfl ?_
                      refine ur_ldA rfl rfl ?_
                      obtain ⟨f191, p192⟩ := mf_47 hO0 hc2
                      refine ur_get rfl hc2 p192 ?_
                      refine ur_ldA rfl rfl ?_
                      obtain ⟨f193, p194⟩ := mf_48 hO0 hc2
                      refine ur_get rfl hc2 p194 ?_
                      refine ur_ldA rfl rfl ?_
                      obtain ⟨f195, p196⟩ := mf_49 hO0 hc2
                      refine ur_get rfl hc2 p196 ?_
                      refine ur_ldI rfl rfl ?_
                      refine ur_push rfl ?_
                      refine ur_if2 rfl (fun c197 => ?_) (fun c197 => ?_)
                      · have t198 := ne_to c197
                        exfalso
                        omega
                      · have t199 := ne_no c197
                        refine ur_push rfl ?_
                        refine ur_go rfl ?_
                        refine ur_ldI rfl rfl ?_
                        refine ur_ldI rfl rfl ?_
                        refine ur_inl rfl (rcv_of hc2) (Nat.le_of_ble_eq_true rfl) (Nat.le_of_ble_eq_true rfl) (sf_X12_newWord hO0 hX0 _ (by show 0 ≤ x14.toInt ∧ x14.toInt ≤ 7; omega) _ (by show 0 ≤ x7.toInt ∧ x7.toInt ≤ 8; omega) _ _ _ _ (by show -1 ≤ ((-1) : Int32).toInt ∧ ((-1) : Int32).toInt ≤ 19; omega) _ _ (by omega) (by omega) (by omega) (by omega) (fun w200 h204 hr201 hO204 hv204 hp202 hp203 => ?_))
                        have hu204 := hv204
                        obtain ⟨x205, rfl⟩ := hr201
                        show uRun _ (uCall Mt _) _ 181 (_, [(.inl x205)], _, _, _)
                        obtain ⟨fs206, hc207⟩ := hO204.mod
                        obtain ⟨f208, p209, t210⟩ := mf_38 hO204 hc207
                        have t211 := fI_of hc207 p209
                        exact ur_ret rfl rfl (hQ _ _ ⟨_, rfl⟩ hO204 hu204 (by omega) hp203)
                    · have t212 := ne_no c189
                      refine ur_push rfl ?_
                      exact ur_ret rfl rfl (hQ _ _ ⟨_, rfl⟩ hO0 un.rf (by omega) hX0)
                  · have t213 := ne_no c187
                    refine ur_ldA rfl rfl ?_
                    refine ur_ldI rfl rfl ?_
                    refine ur_inl rfl (rcv_of hc2) (Nat.le_of_ble_eq_true rfl) (Nat.le_of_ble_eq_true rfl) (sg_isWord hO0 _ (fun w214 hr215 => ?_))
                    obtain ⟨b216, rfl, t217⟩ := hr215
                    show uRun _ (uCall Mt _) _ 128 (_, [(.inl (bi b216))], _, _, _)
                    refine ur_neB rfl (fun c218 => ?_) (fun c218 => ?_)
                    · have t219 := t217 c218
                      refine ur_ldA rfl rfl ?_
                      refine ur_get rfl hc2 p4 ?_
                      refine ur_push rfl ?_
                      refine ur_if2 rfl (fun c220 => ?_) (fun c220 => ?_)
                      · have t221 := ne_to c220
                        refine ur_ldA rfl rfl ?_
                        refine ur_ldI rfl rfl ?_
                        refine ur_ldI rfl rfl ?_
                        refine ur_ldA rfl rfl ?_
                        obtain ⟨f222, p223⟩ := mf_47 hO0 hc2
                        refine ur_get rfl hc2 p223 ?_
                        refine ur_ldA rfl rfl ?_
                        obtain ⟨f224, p225⟩ := mf_48 hO0 hc2
                        refine ur_get rfl hc2 p225 ?_
                        refine ur_ldA rfl rfl ?_
                        obtain ⟨f226, p227⟩ := mf_49 hO0 hc2
                        refine ur_get rfl hc2 p227 ?_
                        refine ur_ldI rfl rfl ?_
                        refine ur_push rfl ?_
                        refine ur_if2 rfl (fun c228 => ?_) (fun c228 => ?_)
                        · have t229 := ne_to c228
                          exfalso
                          omega
                        · have t230 := ne_no c228
                          refine ur_push rfl ?_
                          refine ur_go rfl ?_
                          refine ur_ldI rfl rfl ?_
                          refine ur_ldI rfl rfl ?_
                          refine ur_inl rfl (rcv_of hc2) (Nat.le_of_ble_eq_true rfl) (Nat.le_of_ble_eq_true rfl) (sf_X12_newWord hO0 hX0 _ (by show 0 ≤ x14.toInt ∧ x14.toInt ≤ 7; omega) _ (by show 0 ≤ x7.toInt ∧ x7.toInt ≤ 8; omega) _ _ _ _ (by show -1 ≤ ((-1) : Int32).toInt ∧ ((-1) : Int32).toInt ≤ 19; omega) _ _ (by omega) (by omega) (by omega) (by omega) (fun w231 h235 hr232 hO235 hv235 hp233 hp234 => ?_))
                          have hu235 := hv235
                          obtain ⟨x236, rfl⟩ := hr232
                          show uRun _ (uCall Mt _) _ 181 (_, [(.inl x236)], _, _, _)
                          obtain ⟨fs237, hc238⟩ := hO235.mod
                          obtain ⟨f239, p240, t241⟩ := mf_38 hO235 hc238
                          have t242 := fI_of hc238 p240
                          exact ur_ret rfl rfl (hQ _ _ ⟨_, rfl⟩ hO235 hu235 (by omega) hp234)
                      · have t243 := ne_no c220
                        refine ur_push rfl ?_
                        exact ur_ret rfl rfl (hQ _ _ ⟨_, rfl⟩ hO0 un.rf (by omega) hX0)
                    · refine ur_push rfl ?_
                      exact ur_ret rfl rfl (hQ _ _ ⟨_, rfl⟩ hO0 un.rf (by omega) hX0)
                · have t244 := t183 c185
                  refine ur_ldI rfl rfl ?_
                  refine ur_push rfl ?_
                  refine ur_push rfl ?_
                  refine ur_callv rfl rfl (Nat.le_of_ble_eq_true rfl) (Nat.le_of_ble_eq_true rfl) rfl (sp_in _ _ _ _ _) ?_
                  refine ur_eqB rfl (fun c247 => ?_) (fun c247 => ?_)
                  · have t248 := wi_noL c247 l_0 l_1
                    refine ur_push rfl ?_
                    exact ur_ret rfl rfl (hQ _ _ ⟨_, rfl⟩ hO0 un.rf (by omega) hX0)
                  · have t249 := wi_toL c247 l_0 l_1
                    refine ur_ldI rfl rfl ?_
                    refine ur_push rfl ?_
                    refine ur_if2 rfl (fun c250 => ?_) (fun c250 => ?_)
                    · have t251 := ne_to c250
                      refine ur_ldA rfl rfl ?_
                      refine ur_get rfl hc2 p4 ?_
                      refine ur_push rfl ?_
                      refine ur_if2 rfl (fun c252 => ?_) (fun c252 => ?_)
                      · have t253 := ne_to c252
                        refine ur_ldA rfl rfl ?_
                        refine ur_ldI rfl rfl ?_
                        refine ur_ldI rfl rfl ?_
                        refine ur_ldA rfl rfl ?_
                        obtain ⟨f254, p255⟩ := mf_47 hO0 hc2
                        refine ur_get rfl hc2 p255 ?_
                        refine ur_ldA rfl rfl ?_
                        obtain ⟨f256, p257⟩ := mf_48 hO0 hc2
                        refine ur_get rfl hc2 p257 ?_
                        refine ur_ldA rfl rfl ?_
                        obtain ⟨f258, p259⟩ := mf_49 hO0 hc2
                        refine ur_get rfl hc2 p259 ?_
                        refine ur_ldI rfl rfl ?_
                        refine ur_push rfl ?_
                        refine ur_if2 rfl (fun c260 => ?_) (fun c260 => ?_)
                        · have t261 := ne_to c260
                          exfalso
                          omega
                        · have t262 := ne_no c260
                          refine ur_push rfl ?_
                          refine ur_go rfl ?_
                          refine ur_ldI rfl rfl ?_
                          refine ur_ldI rfl rfl ?_
                          refine ur_inl rfl (rcv_of hc2) (Nat.le_of_ble_eq_true rfl) (Nat.le_of_ble_eq_true rfl) (sf_X12_newWord hO0 hX0 _ (by show 0 ≤ x14.toInt ∧ x14.toInt ≤ 7; omega) _ (by show 0 ≤ x7.toInt ∧ x7.toInt ≤ 8; omega) _ _ _ _ (by show -1 ≤ ((-1) : Int32).toInt ∧ ((-1) : Int32).toInt ≤ 19; omega) _ _ (by omega) (by omega) (by omega) (by omega) (fun w263 h267 hr264 hO267 hv267 hp265 hp266 => ?_))
                          have hu267 := hv267
                          obtain ⟨x268, rfl⟩ := hr264
                          show uRun _ (uCall Mt _) _ 181 (_, [(.inl x268)], _, _, _)
                          obtain ⟨fs269, hc270⟩ := hO267.mod
                          obtain ⟨f271, p272, t273⟩ := mf_38 hO267 hc270
                          have t274 := fI_of hc270 p272
                          exact ur_ret rfl rfl (hQ _ _ ⟨_, rfl⟩ hO267 hu267 (by omega) hp266)
                      · have t275 := ne_no c252
                        refine ur_push rfl ?_
                        exact ur_ret rfl rfl (hQ _ _ ⟨_, rfl⟩ hO0 un.rf (by omega) hX0)
                    · have t276 := ne_no c250
                      refine ur_ldA rfl rfl ?_
                      refine ur_ldI rfl rfl ?_
                      refine ur_inl rfl (rcv_of hc2) (Nat.le_of_ble_eq_true rfl) (Nat.le_of_ble_eq_true rfl) (sg_isWord hO0 _ (fun w277 hr278 => ?_))
                      obtain ⟨b279, rfl, t280⟩ := hr278
                      show uRun _ (uCall Mt _) _ 128 (_, [(.inl (bi b279))], _, _, _)
                      refine ur_neB rfl (fun c281 => ?_) (fun c281 => ?_)
                      · have t282 := t280 c281
                        refine ur_ldA rfl rfl ?_
                        refine ur_get rfl hc2 p4 ?_
                        refine ur_push rfl ?_
                        refine ur_if2 rfl (fun c283 => ?_) (fun c283 => ?_)
                        · have t284 := ne_to c283
                          refine ur_ldA rfl rfl ?_
                          refine ur_ldI rfl rfl ?_
                          refine ur_ldI rfl rfl ?_
                          refine ur_ldA rfl rfl ?_
                          obtain ⟨f285, p286⟩ := mf_47 hO0 hc2
                          refine ur_get rfl hc2 p286 ?_
                          refine ur_ldA rfl rfl ?_
                          obtain ⟨f287, p288⟩ := mf_48 hO0 hc2
                          refine ur_get rfl hc2 p288 ?_
                          refine ur_ldA rfl rfl ?_
                          obtain ⟨f289, p290⟩ := mf_49 hO0 hc2
                          refine ur_get rfl hc2 p290 ?_
                          refine ur_ldI rfl rfl ?_
                          refine ur_push rfl ?_
                          refine ur_if2 rfl (fun c291 => ?_) (fun c291 => ?_)
                          · have t292 := ne_to c291
                            exfalso
                            omega
                          · have t293 := ne_no c291
                            refine ur_push rfl ?_
                            refine ur_go rfl ?_
                            refine ur_ldI rfl rfl ?_
                            refine ur_ldI rfl rfl ?_
                            refine ur_inl rfl (rcv_of hc2) (Nat.le_of_ble_eq_true rfl) (Nat.le_of_ble_eq_true rfl) (sf_X12_newWord hO0 hX0 _ (by show 0 ≤ x14.toInt ∧ x14.toInt ≤ 7; omega) _ (by show 0 ≤ x7.toInt ∧ x7.toInt ≤ 8; omega) _ _ _ _ (by show -1 ≤ ((-1) : Int32).toInt ∧ ((-1) : Int32).toInt ≤ 19; omega) _ _ (by omega) (by omega) (by omega) (by omega) (fun w294 h298 hr295 hO298 hv298 hp296 hp297 => ?_))
                            have hu298 := hv298
                            obtain ⟨x299, rfl⟩ := hr295
                            show uRun _ (uCall Mt _) _ 181 (_, [(.inl x299)], _, _, _)
                            obtain ⟨fs300, hc301⟩ := hO298.mod
                            obtain ⟨f302, p303, t304⟩ := mf_38 hO298 hc301
                            have t305 := fI_of hc301 p303
                            exact ur_ret rfl rfl (hQ _ _ ⟨_, rfl⟩ hO298 hu298 (by omega) hp297)
                        · have t306 := ne_no c283
                          refine ur_push rfl ?_
                          exact ur_ret rfl rfl (hQ _ _ ⟨_, rfl⟩ hO0 un.rf (by omega) hX0)
                      · refine ur_push rfl ?_
                        exact ur_ret rfl rfl (hQ _ _ ⟨_, rfl⟩ hO0 un.rf (by omega) hX0)
          · have t307 := wi_noL c38 l_0 l_400
            refine ur_push rfl ?_
            exact ur_ret rfl rfl (hQ _ _ ⟨_, rfl⟩ hO0 un.rf (by omega) hX0)
        · have t308 := eq_no c34
          refine ur_ldI rfl rfl ?_
          refine ur_push rfl ?_
          refine ur_if2 rfl (fun c309 => ?_) (fun c309 => ?_)
          · have t310 := le_to c309
            refine ur_push rfl ?_
            exact ur_ret rfl rfl (hQ _ _ ⟨_, rfl⟩ hO0 un.rf (by omega) hX0)
          · have t311 := le_no c309
            refine ur_ldA rfl rfl ?_
            refine ur_get rfl hc2 (mf_32 hO0 hc2) ?_
            refine ur_ldI rfl rfl ?_
            obtain ⟨xs313, hc312, hn314, he315⟩ := hO0.int (hO0.fix 91 (by decide) rfl)
            refine ur_aldV rfl hc312 hn314 (by omega) (fun x316 hx317 => ?_)
            refine ur_if1 rfl (fun c318 => ?_) (fun c318 => ?_)
            · have t319 := eq_to c318
              refine ur_push rfl ?_
              exact ur_ret rfl rfl (hQ _ _ ⟨_, rfl⟩ hO0 un.rf (by omega) hX0)
            · have t320 := eq_no c318
              refine ur_ldI rfl rfl ?_
              refine ur_push rfl ?_
              refine ur_push rfl ?_
              refine ur_callv rfl rfl (Nat.le_of_ble_eq_true rfl) (Nat.le_of_ble_eq_true rfl) rfl (sp_in _ _ _ _ _) ?_
              refine ur_neB rfl (fun c323 => ?_) (fun c323 => ?_)
              · have t324 := wi_toL c323 l_0 l_400
                refine ur_ldI rfl rfl ?_
                refine ur_inl rfl rfl (Nat.le_of_ble_eq_true rfl) (Nat.le_of_ble_eq_true rfl) (sg_isLodged _ (fun w325 hr326 => ?_))
                obtain ⟨b327, rfl, t328, t329⟩ := hr326
                show uRun _ (uCall Mt _) _ 87 (_, [(.inl (bi b327))], _, _, _)
                refine ur_eqB rfl (fun c330 => ?_) (fun c330 => ?_)
                · have t331 := t329 c330
                  refine ur_ldI rfl rfl ?_
                  refine ur_inl rfl rfl (Nat.le_of_ble_eq_true rfl) (Nat.le_of_ble_eq_true rfl) (sg_isSided _ (fun w332 hr333 => ?_))
                  obtain ⟨b334, rfl, t335, t336⟩ := hr333
                  show uRun _ (uCall Mt _) _ 105 (_, [(.inl (bi b334))], _, _, _)
                  refine ur_eqB rfl (fun c337 => ?_) (fun c337 => ?_)
                  · have t338 := t336 c337
                    refine ur_ldI rfl rfl ?_
                    refine ur_push rfl ?_
                    refine ur_if2 rfl (fun c339 => ?_) (fun c339 => ?_)
                    · have t340 := ne_to c339
                      refine ur_ldA rfl rfl ?_
                      refine ur_get rfl hc2 p4 ?_
                      refine ur_push rfl ?_
                      refine ur_if2 rfl (fun c341 => ?_) (fun c341 => ?_)
                      · have t342 := ne_to c341
                        refine ur_ldA rfl rfl ?_
                        refine ur_ldI rfl rfl ?_
                        refine ur_ldI rfl rfl ?_
                        refine ur_ldA rfl rfl ?_
                        obtain ⟨f343, p344⟩ := mf_47 hO0 hc2
                        refine ur_get rfl hc2 p344 ?_
                        refine ur_ldA rfl rfl ?_
                        obtain ⟨f345, p346⟩ := mf_48 hO0 hc2
                        refine ur_get rfl hc2 p346 ?_
                        refine ur_ldA rfl rfl ?_
                        obtain ⟨f347, p348⟩ := mf_49 hO0 hc2
                        refine ur_get rfl hc2 p348 ?_
                        refine ur_ldI rfl rfl ?_
                        refine ur_push rfl ?_
                        refine ur_if2 rfl (fun c349 => ?_) (fun c349 => ?_)
                        · have t350 := ne_to c349
                          refine ur_ldI rfl rfl ?_
                          refine ur_ldI rfl rfl ?_
                          refine ur_ldI rfl rfl ?_
                          refine ur_inl rfl (rcv_of hc2) (Nat.le_of_ble_eq_true rfl) (Nat.le_of_ble_eq_true rfl) (sf_X12_newWord hO0 hX0 _ (by show 0 ≤ x14.toInt ∧ x14.toInt ≤ 7; omega) _ (by show 0 ≤ x7.toInt ∧ x7.toInt ≤ 8; omega) _ _ _ _ (by show -1 ≤ x18.toInt ∧ x18.toInt ≤ 19; omega) _ _ (by omega) (by omega) (by omega) (by omega) (fun w351 h355 hr352 hO355 hv355 hp353 hp354 => ?_))
                          have hu355 := hv355
                          obtain ⟨x356, rfl⟩ := hr352
                          show uRun _ (uCall Mt _) _ 181 (_, [(.inl x356)], _, _, _)
                          obtain ⟨fs357, hc358⟩ := hO355.mod
                          obtain ⟨f359, p360, t361⟩ := mf_38 hO355 hc358
                          have t362 := fI_of hc358 p360
                          exact ur_ret rfl rfl (hQ _ _ ⟨_, rfl⟩ hO355 hu355 (by omega) hp354)
                        · have t363 := ne_no c349
                          exfalso
                          omega
                      · have t364 := ne_no c341
                        refine ur_push rfl ?_
                        exact ur_ret rfl rfl (hQ _ _ ⟨_, rfl⟩ hO0 un.rf (by omega) hX0)
                    · have t365 := ne_no c339
                      refine ur_ldA rfl rfl ?_
                      refine ur_ldI rfl rfl ?_
                      refine ur_inl rfl (rcv_of hc2) (Nat.le_of_ble_eq_true rfl) (Nat.le_of_ble_eq_true rfl) (sg_isWord hO0 _ (fun w366 hr367 => ?_))
                      obtain ⟨b368, rfl, t369⟩ := hr367
                      show uRun _ (uCall Mt _) _ 128 (_, [(.inl (bi b368))], _, _, _)
                      refine ur_neB rfl (fun c370 => ?_) (fun c370 => ?_)
                      · have t371 := t369 c370
                        refine ur_ldA rfl rfl ?_
                        refine ur_get rfl hc2 p4 ?_
                        refine ur_push rfl ?_
                        refine ur_if2 rfl (fun c372 => ?_) (fun c372 => ?_)
                        · have t373 := ne_to c372
                          refine ur_ldA rfl rfl ?_
                          refine ur_ldI rfl rfl ?_
                          refine ur_ldI rfl rfl ?_
                          refine ur_ldA rfl rfl ?_
                          obtain ⟨f374, p375⟩ := mf_47 hO0 hc2
                          refine ur_get rfl hc2 p375 ?_
                          refine ur_ldA rfl rfl ?_
                          obtain ⟨f376, p377⟩ := mf_48 hO0 hc2
                          refine ur_get rfl hc2 p377 ?_
                          refine ur_ldA rfl rfl ?_
                          obtain ⟨f378, p379⟩ := mf_49 hO0 hc2
                          refine ur_get rfl hc2 p379 ?_
                          refine ur_ldI rfl rfl ?_
                          refine ur_push rfl ?_
                          refine ur_if2 rfl (fun c380 => ?_) (fun c380 => ?_)
                          · have t381 := ne_to c380
                            refine ur_ldI rfl rfl ?_
                            refine ur_ldI rfl rfl ?_
                            refine ur_ldI rfl rfl ?_
                            refine ur_inl rfl (rcv_of hc2) (Nat.le_of_ble_eq_true rfl) (Nat.le_of_ble_eq_true rfl) (sf_X12_newWord hO0 hX0 _ (by show 0 ≤ x14.toInt ∧ x14.toInt ≤ 7; omega) _ (by show 0 ≤ x7.toInt ∧ x7.toInt ≤ 8; omega) _ _ _ _ (by show -1 ≤ x18.toInt ∧ x18.toInt ≤ 19; omega) _ _ (by omega) (by omega) (by omega) (by omega) (fun w382 h386 hr383 hO386 hv386 hp384 hp385 => ?_))
                            have hu386 := hv386
                            obtain ⟨x387, rfl⟩ := hr383
                            show uRun _ (uCall Mt _) _ 181 (_, [(.inl x387)], _, _, _)
                            obtain ⟨fs388, hc389⟩ := hO386.mod
                            obtain ⟨f390, p391, t392⟩ := mf_38 hO386 hc389
                            have t393 := fI_of hc389 p391
                            exact ur_ret rfl rfl (hQ _ _ ⟨_, rfl⟩ hO386 hu386 (by omega) hp385)
                          · have t394 := ne_no c380
                            exfalso
                            omega
                        · have t395 := ne_no c372
                          refine ur_push rfl ?_
                          exact ur_ret rfl rfl (hQ _ _ ⟨_, rfl⟩ hO0 un.rf (by omega) hX0)
                      · refine ur_push rfl ?_
                        exact ur_ret rfl rfl (hQ _ _ ⟨_, rfl⟩ hO0 un.rf (by omega) hX0)
                  · have t396 := t335 c337
                    refine ur_ldI rfl rfl ?_
                    refine ur_push rfl ?_
                    refine ur_push rfl ?_
                    refine ur_callv rfl rfl (Nat.le_of_ble_eq_true rfl) (Nat.le_of_ble_eq_true rfl) rfl (sp_in _ _ _ _ _) ?_
                    refine ur_eqB rfl (fun c399 => ?_) (fun c399 => ?_)
                    · have t400 := wi_noL c399 l_0 l_1
                      refine ur_push rfl ?_
                      exact ur_ret rfl rfl (hQ _ _ ⟨_, rfl⟩ hO0 un.rf (by omega) hX0)
                    · have t401 := wi_toL c399 l_0 l_1
                      refine ur_ldI rfl rfl ?_
                      refine ur_push rfl ?_
                      refine ur_if2 rfl (fun c402 => ?_) (fun c402 => ?_)
                      · have t403 := ne_to c402
                        refine ur_ldA rfl rfl ?_
                        refine ur_get rfl hc2 p4 ?_
                        refine ur_push rfl ?_
                        refine ur_if2 rfl (fun c404 => ?_) (fun c404 => ?_)
                        · have t405 := ne_to c404
                          refine ur_ldA rfl rfl ?_
                          refine ur_ldI rfl rfl ?_
                          refine ur_ldI rfl rfl ?_
                          refine ur_ldA rfl rfl ?_
                          obtain ⟨f406, p407⟩ := mf_47 hO0 hc2
                          refine ur_get rfl hc2 p407 ?_
                          refine ur_ldA rfl rfl ?_
                          obtain ⟨f408, p409⟩ := mf_48 hO0 hc2
                          refine ur_get rfl hc2 p409 ?_
                          refine ur_ldA rfl rfl ?_
                          obtain ⟨f410, p411⟩ := mf_49 hO0 hc2
                          refine ur_get rfl hc2 p411 ?_
                          refine ur_ldI rfl rfl ?_
                          refine ur_push rfl ?_
                          refine ur_if2 rfl (fun c412 => ?_) (fun c412 => ?_)
                          · have t413 := ne_to c412
                            refine ur_ldI rfl rfl ?_
                            refine ur_ldI rfl rfl ?_
                            refine ur_ldI rfl rfl ?_
                            refine ur_inl rfl (rcv_of hc2) (Nat.le_of_ble_eq_true rfl) (Nat.le_of_ble_eq_true rfl) (sf_X12_newWord hO0 hX0 _ (by show 0 ≤ x14.toInt ∧ x14.toInt ≤ 7; omega) _ (by show 0 ≤ x7.toInt ∧ x7.toInt ≤ 8; omega) _ _ _ _ (by show -1 ≤ x18.toInt ∧ x18.toInt ≤ 19; omega) _ _ (by omega) (by omega) (by omega) (by omega) (fun w414 h418 hr415 hO418 hv418 hp416 hp417 => ?_))
                            have hu418 := hv418
                            obtain ⟨x419, rfl⟩ := hr415
                            show uRun _ (uCall Mt _) _ 181 (_, [(.inl x419)], _, _, _)
                            obtain ⟨fs420, hc421⟩ := hO418.mod
                            obtain ⟨f422, p423, t424⟩ := mf_38 hO418 hc421
                            have t425 := fI_of hc421 p423
                            exact ur_ret rfl rfl (hQ _ _ ⟨_, rfl⟩ hO418 hu418 (by omega) hp417)
                          · have t426 := ne_no c412
                            exfalso
                            omega
                        · have t427 := ne_no c404
                          refine ur_push rfl ?_
                          exact ur_ret rfl rfl (hQ _ _ ⟨_, rfl⟩ hO0 un.rf (by omega) hX0)
                      · have t428 := ne_no c402
                        refine ur_ldA rfl rfl ?_
                        refine ur_ldI rfl rfl ?_
                        refine ur_inl rfl (rcv_of hc2) (Nat.le_of_ble_eq_true rfl) (Nat.le_of_ble_eq_true rfl) (sg_isWord hO0 _ (fun w429 hr430 => ?_))
                        obtain ⟨b431, rfl, t432⟩ := hr430
                        show uRun _ (uCall Mt _) _ 128 (_, [(.inl (bi b431))], _, _, _)
                        refine ur_neB rfl (fun c433 => ?_) (fun c433 => ?_)
                        · have t434 := t432 c433
                          refine ur_ldA rfl rfl ?_
                          refine ur_get rfl hc2 p4 ?_
                          refine ur_push rfl ?_
                          refine ur_if2 rfl (fun c435 => ?_) (fun c435 => ?_)
                          · have t436 := ne_to c435
                            refine ur_ldA rfl rfl ?_
                            refine ur_ldI rfl rfl ?_
                            refine ur_ldI rfl rfl ?_
                            refine ur_ldA rfl rfl ?_
                            obtain ⟨f437, p438⟩ := mf_47 hO0 hc2
                            refine ur_get rfl hc2 p438 ?_
                            refine ur_ldA rfl rfl ?_
                            obtain ⟨f439, p440⟩ := mf_48 hO0 hc2
                            refine ur_get rfl hc2 p440 ?_
                            refine ur_ldA rfl rfl ?_
                            obtain ⟨f441, p442⟩ := mf_49 hO0 hc2
                            refine ur_get rfl hc2 p442 ?_
                            refine ur_ldI rfl rfl ?_
                            refine ur_push rfl ?_
                            refine ur_if2 rfl (fun c443 => ?_) (fun c443 => ?_)
                            · have t444 := ne_to c443
                              refine ur_ldI rfl rfl ?_
                              refine ur_ldI rfl rfl ?_
                              refine ur_ldI rfl rfl ?_
                              refine ur_inl rfl (rcv_of hc2) (Nat.le_of_ble_eq_true rfl) (Nat.le_of_ble_eq_true rfl) (sf_X12_newWord hO0 hX0 _ (by show 0 ≤ x14.toInt ∧ x14.toInt ≤ 7; omega) _ (by show 0 ≤ x7.toInt ∧ x7.toInt ≤ 8; omega) _ _ _ _ (by show -1 ≤ x18.toInt ∧ x18.toInt ≤ 19; omega) _ _ (by omega) (by omega) (by omega) (by omega) (fun w445 h449 hr446 hO449 hv449 hp447 hp448 => ?_))
                              have hu449 := hv449
                              obtain ⟨x450, rfl⟩ := hr446
                              show uRun _ (uCall Mt _) _ 181 (_, [(.inl x450)], _, _, _)
                              obtain ⟨fs451, hc452⟩ := hO449.mod
                              obtain ⟨f453, p454, t455⟩ := mf_38 hO449 hc452
                              have t456 := fI_of hc452 p454
                              exact ur_ret rfl rfl (hQ _ _ ⟨_, rfl⟩ hO449 hu449 (by omega) hp448)
                            · have t457 := ne_no c443
                              exfalso
                              omega
                          · have t458 := ne_no c435
                            refine ur_push rfl ?_
                            exact ur_ret rfl rfl (hQ _ _ ⟨_, rfl⟩ hO0 un.rf (by omega) hX0)
                        · refine ur_push rfl ?_
                          exact ur_ret rfl rfl (hQ _ _ ⟨_, rfl⟩ hO0 un.rf (by omega) hX0)
                · have t459 := t328 c330
                  refine ur_ldI rfl rfl ?_
                  refine ur_push rfl ?_
                  refine ur_push rfl ?_
                  refine ur_callv rfl rfl (Nat.le_of_ble_eq_true rfl) (Nat.le_of_ble_eq_true rfl) rfl (sp_in _ _ _ _ _) ?_
                  refine ur_eqB rfl (fun c462 => ?_) (fun c462 => ?_)
                  · have t463 := wi_noL c462 l_0 l_23
                    refine ur_push rfl ?_
                    exact ur_ret rfl rfl (hQ _ _ ⟨_, rfl⟩ hO0 un.rf (by omega) hX0)
                  · have t464 := wi_toL c462 l_0 l_23
                    refine ur_ldI rfl rfl ?_
                    refine ur_inl rfl rfl (Nat.le_of_ble_eq_true rfl) (Nat.le_of_ble_eq_true rfl) (sg_isSided _ (fun w465 hr466 => ?_))
                    obtain ⟨b467, rfl, t468, t469⟩ := hr466
                    show uRun _ (uCall Mt _) _ 105 (_, [(.inl (bi b467))], _, _, _)
                    refine ur_eqB rfl (fun c470 => ?_) (fun c470 => ?_)
                    · have t471 := t469 c470
                      refine ur_ldI rfl rfl ?_
                      refine ur_push rfl ?_
                      refine ur_if2 rfl (fun c472 => ?_) (fun c472 => ?_)
                      · have t473 := ne_to c472
                        refine ur_ldA rfl rfl ?_
                        refine ur_get rfl hc2 p4 ?_
                        refine ur_push rfl ?_
                        refine ur_if2 rfl (fun c474 => ?_) (fun c474 => ?_)
                        · have t475 := ne_to c474
                          refine ur_ldA rfl rfl ?_
                          refine ur_ldI rfl rfl ?_
                          refine ur_ldI rfl rfl ?_
                          refine ur_ldA rfl rfl ?_
                          obtain ⟨f476, p477⟩ := mf_47 hO0 hc2
                          refine ur_get rfl hc2 p477 ?_
                          refine ur_ldA rfl rfl ?_
                          obtain ⟨f478, p479⟩ := mf_48 hO0 hc2
                          refine ur_get rfl hc2 p479 ?_
                          refine ur_ldA rfl rfl ?_
                          obtain ⟨f480, p481⟩ := mf_49 hO0 hc2
                          refine ur_get rfl hc2 p481 ?_
                          refine ur_ldI rfl rfl ?_
                          refine ur_push rfl ?_
                          refine ur_if2 rfl (fun c482 => ?_) (fun c482 => ?_)
                          · have t483 := ne_to c482
                            refine ur_ldI rfl rfl ?_
                            refine ur_ldI rfl rfl ?_
                            refine ur_ldI rfl rfl ?_
                            refine ur_inl rfl (rcv_of hc2) (Nat.le_of_ble_eq_true rfl) (Nat.le_of_ble_eq_true rfl) (sf_X12_newWord hO0 hX0 _ (by show 0 ≤ x14.toInt ∧ x14.toInt ≤ 7; omega) _ (by show 0 ≤ x7.toInt ∧ x7.toInt ≤ 8; omega) _ _ _ _ (by show -1 ≤ x18.toInt ∧ x18.toInt ≤ 19; omega) _ _ (by omega) (by omega) (by omega) (by omega) (fun w484 h488 hr485 hO488 hv488 hp486 hp487 => ?_))
                            have hu488 := hv488
                            obtain ⟨x489, rfl⟩ := hr485
                            show uRun _ (uCall Mt _) _ 181 (_, [(.inl x489)], _, _, _)
                            obtain ⟨fs490, hc491⟩ := hO488.mod
                            obtain ⟨f492, p493, t494⟩ := mf_38 hO488 hc491
                            have t495 := fI_of hc491 p493
                            exact ur_ret rfl rfl (hQ _ _ ⟨_, rfl⟩ hO488 hu488 (by omega) hp487)
                          · have t496 := ne_no c482
                            exfalso
                            omega
                        · have t497 := ne_no c474
                          refine ur_push rfl ?_
                          exact ur_ret rfl rfl (hQ _ _ ⟨_, rfl⟩ hO0 un.rf (by omega) hX0)
                      · have t498 := ne_no c472
                        refine ur_ldA rfl rfl ?_
                        refine ur_ldI rfl rfl ?_
                        refine ur_inl rfl (rcv_of hc2) (Nat.le_of_ble_eq_true rfl) (Nat.le_of_ble_eq_true rfl) (sg_isWord hO0 _ (fun w499 hr500 => ?_))
                        obtain ⟨b501, rfl, t502⟩ := hr500
                        show uRun _ (uCall Mt _) _ 128 (_, [(.inl (bi b501))], _, _, _)
                        refine ur_neB rfl (fun c503 => ?_) (fun c503 => ?_)
                        · have t504 := t502 c503
                          refine ur_ldA rfl rfl ?_
                          refine ur_get rfl hc2 p4 ?_
                          refine ur_push rfl ?_
                          refine ur_if2 rfl (fun c505 => ?_) (fun c505 => ?_)
                          · have t506 := ne_to c505
                            refine ur_ldA rfl rfl ?_
                            refine ur_ldI rfl rfl ?_
                            refine ur_ldI rfl rfl ?_
                            refine ur_ldA rfl rfl ?_
                            obtain ⟨f507, p508⟩ := mf_47 hO0 hc2
                            refine ur_get rfl hc2 p508 ?_
                            refine ur_ldA rfl rfl ?_
                            obtain ⟨f509, p510⟩ := mf_48 hO0 hc2
                            refine ur_get rfl hc2 p510 ?_
                            refine ur_ldA rfl rfl ?_
                            obtain ⟨f511, p512⟩ := mf_49 hO0 hc2
                            refine ur_get rfl hc2 p512 ?_
                            refine ur_ldI rfl rfl ?_
                            refine ur_push rfl ?_
                            refine ur_if2 rfl (fun c513 => ?_) (fun c513 => ?_)
                            · have t514 := ne_to c513
                              refine ur_ldI rfl rfl ?_
                              refine ur_ldI rfl rfl ?_
                              refine ur_ldI rfl rfl ?_
                              refine ur_inl rfl (rcv_of hc2) (Nat.le_of_ble_eq_true rfl) (Nat.le_of_ble_eq_true rfl) (sf_X12_newWord hO0 hX0 _ (by show 0 ≤ x14.toInt ∧ x14.toInt ≤ 7; omega) _ (by show 0 ≤ x7.toInt ∧ x7.toInt ≤ 8; omega) _ _ _ _ (by show -1 ≤ x18.toInt ∧ x18.toInt ≤ 19; omega) _ _ (by omega) (by omega) (by omega) (by omega) (fun w515 h519 hr516 hO519 hv519 hp517 hp518 => ?_))
                              have hu519 := hv519
                              obtain ⟨x520, rfl⟩ := hr516
                              show uRun _ (uCall Mt _) _ 181 (_, [(.inl x520)], _, _, _)
                              obtain ⟨fs521, hc522⟩ := hO519.mod
                              obtain ⟨f523, p524, t525⟩ := mf_38 hO519 hc522
                              have t526 := fI_of hc522 p524
                              exact ur_ret rfl rfl (hQ _ _ ⟨_, rfl⟩ hO519 hu519 (by omega) hp518)
                            · have t527 := ne_no c513
                              exfalso
                              omega
                          · have t528 := ne_no c505
                            refine ur_push rfl ?_
                            exact ur_ret rfl rfl (hQ _ _ ⟨_, rfl⟩ hO0 un.rf (by omega) hX0)
                        · refine ur_push rfl ?_
                          exact ur_ret rfl rfl (hQ _ _ ⟨_, rfl⟩ hO0 un.rf (by omega) hX0)
                    · have t529 := t468 c470
                      refine ur_ldI rfl rfl ?_
                      refine ur_push rfl ?_
                      refine ur_push rfl ?_
                      refine ur_callv rfl rfl (Nat.le_of_ble_eq_true rfl) (Nat.le_of_ble_eq_true rfl) rfl (sp_in _ _ _ _ _) ?_
                      refine ur_eqB rfl (fun c532 => ?_) (fun c532 => ?_)
                      · have t533 := wi_noL c532 l_0 l_1
                        refine ur_push rfl ?_
                        exact ur_ret rfl rfl (hQ _ _ ⟨_, rfl⟩ hO0 un.rf (by omega) hX0)
                      · have t534 := wi_toL c532 l_0 l_1
                        refine ur_ldI rfl rfl ?_
                        refine ur_push rfl ?_
                        refine ur_if2 rfl (fun c535 => ?_) (fun c535 => ?_)
                        · have t536 := ne_to c535
                          refine ur_ldA rfl rfl ?_
                          refine ur_get rfl hc2 p4 ?_
                          refine ur_push rfl ?_
                          refine ur_if2 rfl (fun c537 => ?_) (fun c537 => ?_)
                          · have t538 := ne_to c537
                            refine ur_ldA rfl rfl ?_
                            refine ur_ldI rfl rfl ?_
                            refine ur_ldI rfl rfl ?_
                            refine ur_ldA rfl rfl ?_
                            obtain ⟨f539, p540⟩ := mf_47 hO0 hc2
                            refine ur_get rfl hc2 p540 ?_
                            refine ur_ldA rfl rfl ?_
                            obtain ⟨f541, p542⟩ := mf_48 hO0 hc2
                            refine ur_get rfl hc2 p542 ?_
                            refine ur_ldA rfl rfl ?_
                            obtain ⟨f543, p544⟩ := mf_49 hO0 hc2
                            refine ur_get rfl hc2 p544 ?_
                            refine ur_ldI rfl rfl ?_
                            refine ur_push rfl ?_
                            refine ur_if2 rfl (fun c545 => ?_) (fun c545 => ?_)
                            · have t546 := ne_to c545
                              refine ur_ldI rfl rfl ?_
                              refine ur_ldI rfl rfl ?_
                              refine ur_ldI rfl rfl ?_
                              refine ur_inl rfl (rcv_of hc2) (Nat.le_of_ble_eq_true rfl) (Nat.le_of_ble_eq_true rfl) (sf_X12_newWord hO0 hX0 _ (by show 0 ≤ x14.toInt ∧ x14.toInt ≤ 7; omega) _ (by show 0 ≤ x7.toInt ∧ x7.toInt ≤ 8; omega) _ _ _ _ (by show -1 ≤ x18.toInt ∧ x18.toInt ≤ 19; omega) _ _ (by omega) (by omega) (by omega) (by omega) (fun w547 h551 hr548 hO551 hv551 hp549 hp550 => ?_))
                              have hu551 := hv551
                              obtain ⟨x552, rfl⟩ := hr548
                              show uRun _ (uCall Mt _) _ 181 (_, [(.inl x552)], _, _, _)
                              obtain ⟨fs553, hc554⟩ := hO551.mod
                              obtain ⟨f555, p556, t557⟩ := mf_38 hO551 hc554
                              have t558 := fI_of hc554 p556
                              exact ur_ret rfl rfl (hQ _ _ ⟨_, rfl⟩ hO551 hu551 (by omega) hp550)
                            · have t559 := ne_no c545
                              exfalso
                              omega
                          · have t560 := ne_no c537
                            refine ur_push rfl ?_
                            exact ur_ret rfl rfl (hQ _ _ ⟨_, rfl⟩ hO0 un.rf (by omega) hX0)
                        · have t561 := ne_no c535
                          refine ur_ldA rfl rfl ?_
                          refine ur_ldI rfl rfl ?_
                          refine ur_inl rfl (rcv_of hc2) (Nat.le_of_ble_eq_true rfl) (Nat.le_of_ble_eq_true rfl) (sg_isWord hO0 _ (fun w562 hr563 => ?_))
                          obtain ⟨b564, rfl, t565⟩ := hr563
                          show uRun _ (uCall Mt _) _ 128 (_, [(.inl (bi b564))], _, _, _)
                          refine ur_neB rfl (fun c566 => ?_) (fun c566 => ?_)
                          · have t567 := t565 c566
                            refine ur_ldA rfl rfl ?_
                            refine ur_get rfl hc2 p4 ?_
                            refine ur_push rfl ?_
                            refine ur_if2 rfl (fun c568 => ?_) (fun c568 => ?_)
                            · have t569 := ne_to c568
                              refine ur_ldA rfl rfl ?_
                              refine ur_ldI rfl rfl ?_
                              refine ur_ldI rfl rfl ?_
                              refine ur_ldA rfl rfl ?_
                              obtain ⟨f570, p571⟩ := mf_47 hO0 hc2
                              refine ur_get rfl hc2 p571 ?_
                              refine ur_ldA rfl rfl ?_
                              obtain ⟨f572, p573⟩ := mf_48 hO0 hc2
                              refine ur_get rfl hc2 p573 ?_
                              refine ur_ldA rfl rfl ?_
                              obtain ⟨f574, p575⟩ := mf_49 hO0 hc2
                              refine ur_get rfl hc2 p575 ?_
                              refine ur_ldI rfl rfl ?_
                              refine ur_push rfl ?_
                              refine ur_if2 rfl (fun c576 => ?_) (fun c576 => ?_)
                              · have t577 := ne_to c576
                                refine ur_ldI rfl rfl ?_
                                refine ur_ldI rfl rfl ?_
                                refine ur_ldI rfl rfl ?_
                                refine ur_inl rfl (rcv_of hc2) (Nat.le_of_ble_eq_true rfl) (Nat.le_of_ble_eq_true rfl) (sf_X12_newWord hO0 hX0 _ (by show 0 ≤ x14.toInt ∧ x14.toInt ≤ 7; omega) _ (by show 0 ≤ x7.toInt ∧ x7.toInt ≤ 8; omega) _ _ _ _ (by show -1 ≤ x18.toInt ∧ x18.toInt ≤ 19; omega) _ _ (by omega) (by omega) (by omega) (by omega) (fun w578 h582 hr579 hO582 hv582 hp580 hp581 => ?_))
                                have hu582 := hv582
                                obtain ⟨x583, rfl⟩ := hr579
                                show uRun _ (uCall Mt _) _ 181 (_, [(.inl x583)], _, _, _)
                                obtain ⟨fs584, hc585⟩ := hO582.mod
                                obtain ⟨f586, p587, t588⟩ := mf_38 hO582 hc585
                                have t589 := fI_of hc585 p587
                                exact ur_ret rfl rfl (hQ _ _ ⟨_, rfl⟩ hO582 hu582 (by omega) hp581)
                              · have t590 := ne_no c576
                                exfalso
                                omega
                            · have t591 := ne_no c568
                              refine ur_push rfl ?_
                              exact ur_ret rfl rfl (hQ _ _ ⟨_, rfl⟩ hO0 un.rf (by omega) hX0)
                          · refine ur_push rfl ?_
                            exact ur_ret rfl rfl (hQ _ _ ⟨_, rfl⟩ hO0 un.rf (by omega) hX0)
              · have t592 := wi_noL c323 l_0 l_400
                refine ur_push rfl ?_
                exact ur_ret rfl rfl (hQ _ _ ⟨_, rfl⟩ hO0 un.rf (by omega) hX0)

set_option maxRecDepth 20000 in
set_option maxHeartbeats 4000000 in
theorem sf_X12_words {d kc ks : Nat} {h0 : aH} {Q : Option aV → aH → Prop} (hO0 : OK h0) (hX0 : SX h0) (a1 : Int32) (a2 : Int32) (a3 : Int32) (a4 : Int32) (hQ : ∀ r h', (∃ x, r = some (.inl x)) → OK h' → un [96, 97, 98, 99, 100, 101, 102, 103, 7938] h0 h' → (fI h' 38 ≤ fI h0 38 + 12) → (SX h') → Q r h') : uCall Mt (d + 3) 240 [(.inr (.inr (some 69))), (.inl a1), (.inl a2), (.inl a3), (.inl a4)] h0 kc ks Q := by
  have l_m12 : ((-12) : Int32).toInt = -12 := by decide
  have l_m3 : ((-3) : Int32).toInt = -3 := by decide
  have l_m1 : ((-1) : Int32).toInt = -1 := by decide
  have l_0 : ((0) : Int32).toInt = 0 := by decide
  have l_1 : ((1) : Int32).toInt = 1 := by decide
  have l_2 : ((2) : Int32).toInt = 2 := by decide
  have l_3 : ((3) : Int32).toInt = 3 := by decide
  have l_4 : ((4) : Int32).toInt = 4 := by decide
  have l_5 : ((5) : Int32).toInt = 5 := by decide
  have l_8 : ((8) : Int32).toInt = 8 := by decide
  have l_12 : ((12) : Int32).toInt = 12 := by decide
  have l_60 : ((60) : Int32).toInt = 60 := by decide
  have l_150 : ((150) : Int32).toInt = 150 := by decide
  have l_400 : ((400) : Int32).toInt = 400 := by decide
  have l_9999 : ((9999) : Int32).toInt = 9999 := by decide
  refine uc_ink [some (.inr (.inr (some 69))), some (.inl a1), some (.inl a2), some (.inl a3), some (.inl a4), none, none, none, none, none, none, none, none] mt_240 (Nat.le_of_ble_eq_true rfl) rfl ?_
  obtain ⟨fs1, hc2⟩ := hO0.mod
  obtain ⟨f3, p4, t5⟩ := mf_38 hO0 hc2
  have t6 := fI_of hc2 p4
  refine ur_ldI rfl rfl ?_
  refine ur_callv rfl rfl (Nat.le_of_ble_eq_true rfl) (Nat.le_of_ble_eq_true rfl) rfl (sq_isPpl _ _) ?_
  refine ur_eqB rfl (fun c9 => ?_) (fun c9 => ?_)
  · have t10 := wi_noL c9 l_0 l_8
    refine ur_push rfl ?_
    exact ur_ret rfl rfl (hQ _ _ ⟨_, rfl⟩ hO0 un.rf (by omega) hX0)
  · have t11 := wi_toL c9 l_0 l_8
    refine ur_ldI rfl rfl ?_
    refine ur_callv rfl rfl (Nat.le_of_ble_eq_true rfl) (Nat.le_of_ble_eq_true rfl) rfl (sq_isShf _ _) ?_
    refine ur_eqB rfl (fun c14 => ?_) (fun c14 => ?_)
    · have t15 := wi_noL c14 l_0 l_5
      refine ur_push rfl ?_
      exact ur_ret rfl rfl (hQ _ _ ⟨_, rfl⟩ hO0 un.rf (by omega) hX0)
    · have t16 := wi_toL c14 l_0 l_5
      refine ur_ldI rfl rfl ?_
      refine ur_push rfl ?_
      refine ur_push rfl ?_
      refine ur_callv rfl rfl (Nat.le_of_ble_eq_true rfl) (Nat.le_of_ble_eq_true rfl) rfl (sp_in _ _ _ _ _) ?_
      refine ur_neB rfl (fun c19 => ?_) (fun c19 => ?_)
      · have t20 := wi_toL c19 l_1 l_12
        refine ur_ldA rfl rfl ?_
        refine ur_get rfl hc2 (mf_65 hO0 hc2) ?_
        refine ur_ldI rfl rfl ?_
        obtain ⟨xs22, hc21, hn23, he24⟩ := hO0.int (hO0.fix 110 (by decide) rfl)
        refine ur_aldV rfl hc21 hn23 (by omega) (fun x25 hx26 => ?_)
        have t27 : -6 ≤ x25.toInt ∧ x25.toInt ≤ 149 := he24 _ _ hx26
        refine ur_push rfl ?_
        refine ur_if2 rfl (fun c28 => ?_) (fun c28 => ?_)
        · have t29 := eq_to c28
          refine ur_ldA rfl rfl ?_
          refine ur_get rfl hc2 (mf_65 hO0 hc2) ?_
          refine ur_ldI rfl rfl ?_
          refine ur_aldV rfl hc21 hn23 (by omega) (fun x30 hx31 => ?_)
          obtain rfl : x25 = x30 := Option.some.inj (hx26.symm.trans hx31)
          refine ur_push rfl ?_
          refine ur_if2 rfl (fun c32 => ?_) (fun c32 => ?_)
          · have t33 := ne_to c32
            exfalso
            omega
          · have t34 := ne_no c32
            refine ur_push rfl ?_
            exact ur_ret rfl rfl (hQ _ _ ⟨_, rfl⟩ hO0 un.rf (by omega) hX0)
        · have t35 := eq_no c28
          refine ur_ldA rfl rfl ?_
          refine ur_get rfl hc2 (mf_65 hO0 hc2) ?_
          refine ur_ldI rfl rfl ?_
          refine ur_aldV rfl hc21 hn23 (by omega) (fun x36 hx37 => ?_)
          obtain rfl : x25 = x36 := Option.some.inj (hx26.symm.trans hx37)
          refine ur_push rfl ?_
          refine ur_if2 rfl (fun c38 => ?_) (fun c38 => ?_)
          · have t39 := eq_to c38
            refine ur_ldA rfl rfl ?_
            refine ur_get rfl hc2 (mf_65 hO0 hc2) ?_
            refine ur_ldI rfl rfl ?_
            refine ur_aldV rfl hc21 hn23 (by omega) (fun x40 hx41 => ?_)
            obtain rfl : x25 = x40 := Option.some.inj (hx26.symm.trans hx41)
            refine ur_push rfl ?_
            refine ur_if2 rfl (fun c42 => ?_) (fun c42 => ?_)
            · have t43 := ne_to c42
              refine ur_push rfl ?_
              refine ur_svIk [some (.inr (.inr (some 69))), some (.inl a1), some (.inl a2), some (.inl a3), some (.inl a4), some (.inl 0), none, none, none, none, none, none, none] rfl rfl ?_
              have L51 : ∀ (m52 : Nat) (x44 : Int32) (u45 : Option aV) (u46 : Option aV) (u47 : Option aV) (u48 : Option aV) (u49 : Option aV) (u50 : Option aV) (h54 : aH) , OK h54 → un [96, 97, 98, 99, 100, 101, 102, 103, 7938] h0 h54 → ((0 ≤ x44.toInt ∧ x44.toInt ≤ 12) ∧ fI h54 38 ≤ fI h0 38 + x44.toInt) → (SX h54) → ((13 - x44.toInt).toNat) < m52 → uRun oX12_words (uCall Mt (d + 2)) Q 66 ([some (.inr (.inr (some 69))), some (.inl a1), some (.inl a2), some (.inl a3), some (.inl a4), some (.inl x44), u45, none, u46, u47, u48, u49, u50], [], h54, kc, ks) := by
                intro m52
                induction m52 with
                | zero => intro x44 u45 u46 u47 u48 u49 u50 h54 hO54 hu54 iv56 px55 mm57; omega
                | succ m52 ih53 =>
                  intro x44 u45 u46 u47 u48 u49 u50 h54 hO54 hu54 iv56 px55 mm57
                  refine ur_ldI rfl rfl ?_
                  refine ur_ldI rfl rfl ?_
                  have z58 := any_r x44
                  have z59 := any_r a4
                  refine ur_if2 rfl (fun c60 => ?_) (fun c60 => ?_)
                  · have t61 := le_to c60
                    refine ur_ldI rfl rfl ?_
                    obtain ⟨fs62, hc63⟩ := hO54.mod
                    obtain ⟨f64, p65, t66⟩ := mf_38 hO54 hc63
                    have t67 := fI_of hc63 p65
                    exact ur_ret rfl rfl (hQ _ _ ⟨_, rfl⟩ hO54 hu54 (by omega) px55)
                  · have t68 := le_no c60
                    refine ur_ldI rfl rfl ?_
                    refine ur_i2lV rfl (fun y69 e70 => ?_)
                    have z71 := any_r a3
                    have t72 := tj_i2l e70
                    refine ur_push rfl ?_
                    refine ur_ldI rfl rfl ?_
                    refine ur_binV rfl (fun x73 e74 => ?_)
                    have t75 := ti_mulR e74 l_5 (by omega) (by omega)
                    refine ur_i2lV rfl (fun y76 e77 => ?_)
                    have z78 := any_r x73
                    have t79 := tj_i2l e77
                    refine ur_binJV rfl (fun y80 e81 => ?_)
                    have t82 := tj_add e81 (by omega) (by omega)
                    refine ur_svJk [some (.inr (.inr (some 69))), some (.inl a1), some (.inl a2), some (.inl a3), some (.inl a4), some (.inl x44), some (.inr (.inl y80)), none, u46, u47, u48, u49, u50] rfl rfl ?_
                    refine ur_ldJ rfl rfl ?_
                    refine ur_push rfl ?_
                    refine ur_cmpJV rfl (fun x83 e84 => ?_)
                    have t85 : ((0) : Int64).toInt = 0 := by decide
                    have t86 := tj_cmp e84
                    refine ur_if1 rfl (fun c87 => ?_) (fun c87 => ?_)
                    · have t88 := lt_to c87
                      refine ur_ldI rfl rfl ?_
                      obtain ⟨fs89, hc90⟩ := hO54.mod
                      obtain ⟨f91, p92, t93⟩ := mf_38 hO54 hc90
                      have t94 := fI_of hc90 p92
                      exact ur_ret rfl rfl (hQ _ _ ⟨_, rfl⟩ hO54 hu54 (by omega) px55)
                    · have t95 := lt_no c87
                      refine ur_ldJ rfl rfl ?_
                      refine ur_push rfl ?_
                      refine ur_binJV rfl (fun y96 e97 => ?_)
                      have t98 : ((4) : Int64).toInt = 4 := by decide
                      have t99 : ((4) : Int64).toInt = 4 := by decide
                      have t100 := tj_add e97 (by omega) (by omega)
                      refine ur_ldA rfl rfl ?_
                      obtain ⟨fs101, hc102⟩ := hO54.mod
                      refine ur_get rfl hc102 (mf_66 hO54 hc102) ?_
                      refine ur_ldI rfl rfl ?_
                      obtain ⟨xs104, hc103, hn105, he106⟩ := hO54.int (hO54.fix 111 (by decide) rfl)
                      refine ur_aldV rfl hc103 hn105 (by omega) (fun x107 hx108 => ?_)
                      have t109 : 0 ≤ x107.toInt ∧ x107.toInt ≤ 60 := he106 _ _ hx108
                      refine ur_i2lV rfl (fun y110 e111 => ?_)
                      have z112 := any_r x107
                      have t113 := tj_i2l e111
                      refine ur_cmpJV rfl (fun x114 e115 => ?_)
                      have t116 := tj_cmp e115
                      refine ur_if1 rfl (fun c117 => ?_) (fun c117 => ?_)
                      · have t118 := le_to c117
                        refine ur_ldI rfl rfl ?_
                        obtain ⟨f119, p120, t121⟩ := mf_38 hO54 hc102
                        have t122 := fI_of hc102 p120
                        exact ur_ret rfl rfl (hQ _ _ ⟨_, rfl⟩ hO54 hu54 (by omega) px55)
                      · have t123 := le_no c117
                        refine ur_ldA rfl rfl ?_
                        obtain ⟨f124, p125, t126⟩ := mf_38 hO54 hc102
                        have t127 := fI_of hc102 p125
                        refine ur_get rfl hc102 p125 ?_
                        refine ur_push rfl ?_
                        refine ur_if2 rfl (fun c128 => ?_) (fun c128 => ?_)
                        · have t129 := ne_to c128
                          refine ur_push rfl ?_
                          refine ur_ldI rfl rfl ?_
                          refine ur_binV rfl (fun x130 e131 => ?_)
                          have z132 := any_r a2
                          have t133 := ti_mulR e131 l_60 (by omega) (by omega)
                          refine ur_ldJ rfl rfl ?_
                          refine ur_l2iV rfl (fun x134 e135 => ?_)
                          have t136 : -2147483648 ≤ y80.toInt ∧ y80.toInt ≤ 2147483647 → x134.toInt = y80.toInt := fun q => tj_l2i e135 q
                          have t137 : 0 ≤ x134.toInt ∧ x134.toInt ≤ 59 := by omega
                          refine ur_binV rfl (fun x138 e139 => ?_)
                          have z140 := any_r x130
                          have z141 := any_r x134
                          have t142 := ti_add e139 (by omega) (by omega)
                          refine ur_svIk [some (.inr (.inr (some 69))), some (.inl a1), some (.inl a2), some (.inl a3), some (.inl a4), some (.inl x44), some (.inr (.inl y80)), none, some (.inl x138), u47, u48, u49, u50] rfl rfl ?_
                          refine ur_ldA rfl rfl ?_
                          refine ur_get rfl hc102 (mf_67 hO54 hc102) ?_
                          refine ur_ldI rfl rfl ?_
                          obtain ⟨xs144, hc143, hn145⟩ := hO54.lon (hO54.fix 112 (by decide) rfl)
                          refine ur_aldJV rfl hc143 hn145 (by omega) (fun y147 hx148 => ?_)
                          refine ur_l2iV rfl (fun x149 e150 => ?_)
                          refine ur_svIk [some (.inr (.inr (some 69))), some (.inl a1), some (.inl a2), some (.inl a3), some (.inl a4), some (.inl x44), some (.inr (.inl y80)), none, some (.inl x138), some (.inl x149), u48, u49, u50] rfl rfl ?_
                          refine ur_ldA rfl rfl ?_
                          refine ur_get rfl hc102 (mf_67 hO54 hc102) ?_
                          refine ur_ldI rfl rfl ?_
                          refine ur_push rfl ?_
                          refine ur_binV rfl (fun x151 e152 => ?_)
                          have z153 := any_r x138
                          have t154 := ti_add e152 (by omega) (by omega)
                          refine ur_aldJV rfl hc143 hn145 (by omega) (fun y155 hx156 => ?_)
                          refine ur_l2iV rfl (fun x157 e158 => ?_)
                          refine ur_svIk [some (.inr (.inr (some 69))), some (.inl a1), some (.inl a2), some (.inl a3), some (.inl a4), some (.inl x44), some (.inr (.inl y80)), none, some (.inl x138), some (.inl x149), some (.inl x157), u49, u50] rfl rfl ?_
                          refine ur_ldA rfl rfl ?_
                          refine ur_get rfl hc102 (mf_67 hO54 hc102) ?_
                          refine ur_ldI rfl rfl ?_
                          refine ur_push rfl ?_
                          refine ur_binV rfl (fun x159 e160 => ?_)
                          have t161 := ti_add e160 (by omega) (by omega)
                          refine ur_aldJV rfl hc143 hn145 (by omega) (fun y162 hx163 => ?_)
                          refine ur_l2iV rfl (fun x164 e165 => ?_)
                          refine ur_svIk [some (.inr (.inr (some 69))), some (.inl a1), some (.inl a2), some (.inl a3), some (.inl a4), some (.inl x44), some (.inr (.inl y80)), none, some (.inl x138), some (.inl x149), some (.inl x157), some (.inl x164), u50] rfl rfl ?_
                          refine ur_ldA rfl rfl ?_
                          refine ur_get rfl hc102 (mf_67 hO54 hc102) ?_
                          refine ur_ldI rfl rfl ?_
                          refine ur_push rfl ?_
                          refine ur_binV rfl (fun x166 e167 => ?_)
                          have t168 := ti_add e167 (by omega) (by omega)
                          refine ur_aldJV rfl hc143 hn145 (by omega) (fun y169 hx170 => ?_)
                          refine ur_l2iV rfl (fun x171 e172 => ?_)
                          refine ur_svIk [some (.inr (.inr (some 69))), some (.inl a1), some (.inl a2), some (.inl a3), some (.inl a4), some (.inl x44), some (.inr (.inl y80)), none, some (.inl x138), some (.inl x149), some (.inl x157), some (.inl x164), some (.inl x171)] rfl rfl ?_
                          refine ur_ldI rfl rfl ?_
                          refine ur_push rfl ?_
                          refine ur_push rfl ?_
                          refine ur_callv rfl rfl (Nat.le_of_ble_eq_true rfl) (Nat.le_of_ble_eq_true rfl) rfl (sp_in _ _ _ _ _) ?_
                          refine ur_eqB rfl (fun c175 => ?_) (fun c175 => ?_)
                          · have t176 := wi_noL c175 l_0 l_9999
                            refine ur_ldI rfl rfl ?_
                            exact ur_ret rfl rfl (hQ _ _ ⟨_, rfl⟩ hO54 hu54 (by omega) px55)
                          · have t177 := wi_toL c175 l_0 l_9999
                            refine ur_ldI rfl rfl ?_
                            refine ur_push rfl ?_
                            refine ur_push rfl ?_
                            refine ur_callv rfl rfl (Nat.le_of_ble_eq_true rfl) (Nat.le_of_ble_eq_true rfl) rfl (sp_in _ _ _ _ _) ?_
                            refine ur_eqB rfl (fun c180 => ?_) (fun c180 => ?_)
                            · have t181 := wi_noL c180 l_0 l_9999
                              refine ur_ldI rfl rfl ?_
                              exact ur_ret rfl rfl (hQ _ _ ⟨_, rfl⟩ hO54 hu54 (by omega) px55)
                            · have t182 := wi_toL c180 l_0 l_9999
                              refine ur_ldI rfl rfl ?_
                              refine ur_push rfl ?_
                              refine ur_push rfl ?_
                              refine ur_callv rfl rfl (Nat.le_of_ble_eq_true rfl) (Nat.le_of_ble_eq_true rfl) rfl (sp_in _ _ _ _ _) ?_
                              refine ur_eqB rfl (fun c185 => ?_) (fun c185 => ?_)
                              · have t186 := wi_noL c185 l_0 l_9999
                                refine ur_ldI rfl rfl ?_
                                exact ur_ret rfl rfl (hQ _ _ ⟨_, rfl⟩ hO54 hu54 (by omega) px55)
                              · have t187 := wi_toL c185 l_0 l_9999
                                refine ur_ldA rfl rfl ?_
                                refine ur_get rfl hc102 (mf_67 hO54 hc102) ?_
                                refine ur_ldI rfl rfl ?_
                                refine ur_push rfl ?_
                                refine ur_binV rfl (fun x188 e189 => ?_)
                                have t190 := ti_add e189 (by omega) (by omega)
                                refine ur_aldJV rfl hc143 hn145 (by omega) (fun y191 hx192 => ?_)
                                refine ur_l2iV rfl (fun x193 e194 => ?_)
                                refine ur_push rfl ?_
                                refine ur_push rfl ?_
                                refine ur_callv rfl rfl (Nat.le_of_ble_eq_true rfl) (Nat.le_of_ble_eq_true rfl) rfl (sp_in _ _ _ _ _) ?_
                                refine ur_eqB rfl (fun c197 => ?_) (fun c197 => ?_)
                                · have t198 := wi_noL c197 l_0 l_400
                                  refine ur_ldI rfl rfl ?_
                                  exact ur_ret rfl rfl (hQ _ _ ⟨_, rfl⟩ hO54 hu54 (by omega) px55)
                                · have t199 := wi_toL c197 l_0 l_400
                                  refine ur_ldI rfl rfl ?_
                                  refine ur_if1 rfl (fun c200 => ?_) (fun c200 => ?_)
                                  · have t201 := eq_to c200
                                    refine ur_ldA rfl rfl ?_
                                    refine ur_ldI rfl rfl ?_
                                    refine ur_ldI rfl rfl ?_
                                    refine ur_ldI rfl rfl ?_
                                    refine ur_ldI rfl rfl ?_
                                    refine ur_ldI rfl rfl ?_
                                    refine ur_push rfl ?_
                                    refine ur_ldA rfl rfl ?_
                                    refine ur_get rfl hc102 (mf_67 hO54 hc102) ?_
                                    refine ur_ldI rfl rfl ?_
                                    refine ur_push rfl ?_
                                    refine ur_binV rfl (fun x202 e203 => ?_)
                                    have t204 := ti_add e203 (by omega) (by omega)
                                    refine ur_aldJV rfl hc143 hn145 (by omega) (fun y205 hx206 => ?_)
                                    refine ur_l2iV rfl (fun x207 e208 => ?_)
                                    refine ur_push rfl ?_
                                    refine ur_inl rfl (rcv_of hc102) (Nat.le_of_ble_eq_true rfl) (Nat.le_of_ble_eq_true rfl) (sf_X12_newWord hO54 px55 _ (by show 0 ≤ x171.toInt ∧ x171.toInt ≤ 7; omega) _ (by show 0 ≤ a1.toInt ∧ a1.toInt ≤ 8; omega) _ _ _ _ (by show -1 ≤ ((-1) : Int32).toInt ∧ ((-1) : Int32).toInt ≤ 19; omega) _ _ (by omega) (by omega) (by omega) (by omega) (fun w209 h213 hr210 hO213 hv213 hp211 hp212 => ?_))
                                    have hu213 := hv213
                                    obtain ⟨x214, rfl⟩ := hr210
                                    show uRun _ (uCall Mt _) _ 277 (_, [(.inl x214)], _, _, _)
                                    refine ur_pop rfl rfl ?_
                                    refine ur_incV (fun z => [some (.inr (.inr (some 69))), some (.inl a1), some (.inl a2), some (.inl a3), some (.inl a4), some (.inl z), some (.inr (.inl y80)), none, some (.inl x138), some (.inl x149), some (.inl x157), some (.inl x164), some (.inl x171)]) rfl rfl (fun _ => rfl) (fun x215 e216 => ?_)
                                    have t217 := ti_add e216 (by omega) (by omega)
                                    refine ur_go rfl ?_
                                    obtain ⟨fs218, hc219⟩ := hO213.mod
                                    obtain ⟨f220, p221, t222⟩ := mf_38 hO213 hc219
                                    have t223 := fI_of hc219 p221
                                    have z224 := any_r x215
                                    exact ih53 x215 _ _ _ _ _ _ _ hO213 (hu54.tr hu213) (by omega) hp212 (by omega)
                                  · have t225 := eq_no c200
                                    refine ur_ldI rfl rfl ?_
                                    refine ur_push rfl ?_
                                    refine ur_if2 rfl (fun c226 => ?_) (fun c226 => ?_)
                                    · have t227 := eq_to c226
                                      refine ur_ldA rfl rfl ?_
                                      refine ur_ldI rfl rfl ?_
                                      refine ur_ldI rfl rfl ?_
                                      refine ur_ldI rfl rfl ?_
                                      refine ur_ldI rfl rfl ?_
                                      refine ur_ldI rfl rfl ?_
                                      refine ur_push rfl ?_
                                      refine ur_ldA rfl rfl ?_
                                      refine ur_get rfl hc102 (mf_67 hO54 hc102) ?_
                                      refine ur_ldI rfl rfl ?_
                                      refine ur_push rfl ?_
                                      refine ur_binV rfl (fun x228 e229 => ?_)
                                      have t230 := ti_add e229 (by omega) (by omega)
                                      refine ur_aldJV rfl hc143 hn145 (by omega) (fun y231 hx232 => ?_)
                                      refine ur_l2iV rfl (fun x233 e234 => ?_)
                                      refine ur_push rfl ?_
                                      refine ur_inl rfl (rcv_of hc102) (Nat.le_of_ble_eq_true rfl) (Nat.le_of_ble_eq_true rfl) (sf_X12_newWord hO54 px55 _ (by show 0 ≤ x171.toInt ∧ x171.toInt ≤ 7; omega) _ (by show 0 ≤ a1.toInt ∧ a1.toInt ≤ 8; omega) _ _ _ _ (by show -1 ≤ ((-1) : Int32).toInt ∧ ((-1) : Int32).toInt ≤ 19; omega) _ _ (by omega) (by omega) (by omega) (by omega) (fun w235 h239 hr236 hO239 hv239 hp237 hp238 => ?_))
                                      have hu239 := hv239
                                      obtain ⟨x240, rfl⟩ := hr236
                                      show uRun _ (uCall Mt _) _ 277 (_, [(.inl x240)], _, _, _)
                                      refine ur_pop rfl rfl ?_
                                      refine ur_incV (fun z => [some (.inr (.inr (some 69))), some (.inl a1), some (.inl a2), some (.inl a3), some (.inl a4), some (.inl z), some (.inr (.inl y80)), none, some (.inl x138), some (.inl x149), some (.inl x157), some (.inl x164), some (.inl x171)]) rfl rfl (fun _ => rfl) (fun x241 e242 => ?_)
                                      have t243 := ti_add e242 (by omega) (by omega)
                                      refine ur_go rfl ?_
                                      obtain ⟨fs244, hc245⟩ := hO239.mod
                                      obtain ⟨f246, p247, t248⟩ := mf_38 hO239 hc245
                                      have t249 := fI_of hc245 p247
                                      have z250 := any_r x241
                                      exact ih53 x241 _ _ _ _ _ _ _ hO239 (hu54.tr hu239) (by omega) hp238 (by omega)
                                    · have t251 := eq_no c226
                                      refine ur_ldI rfl rfl ?_
                                      refine ur_push rfl ?_
                                      refine ur_if2 rfl (fun c252 => ?_) (fun c252 => ?_)
                                      · have t253 := eq_to c252
                                        refine ur_ldA rfl rfl ?_
                                        refine ur_ldI rfl rfl ?_
                                        refine ur_ldI rfl rfl ?_
                                        refine ur_ldI rfl rfl ?_
                                        refine ur_ldI rfl rfl ?_
                                        refine ur_ldI rfl rfl ?_
                                        refine ur_push rfl ?_
                                        refine ur_ldA rfl rfl ?_
                                        refine ur_get rfl hc102 (mf_67 hO54 hc102) ?_
                                        refine ur_ldI rfl rfl ?_
                                        refine ur_push rfl ?_
                                        refine ur_binV rfl (fun x254 e255 => ?_)
                                        have t256 := ti_add e255 (by omega) (by omega)
                                        refine ur_aldJV rfl hc143 hn145 (by omega) (fun y257 hx258 => ?_)
                                        refine ur_l2iV rfl (fun x259 e260 => ?_)
                                        refine ur_push rfl ?_
                                        refine ur_inl rfl (rcv_of hc102) (Nat.le_of_ble_eq_true rfl) (Nat.le_of_ble_eq_true rfl) (sf_X12_newWord hO54 px55 _ (by show 0 ≤ x171.toInt ∧ x171.toInt ≤ 7; omega) _ (by show 0 ≤ a1.toInt ∧ a1.toInt ≤ 8; omega) _ _ _ _ (by show -1 ≤ ((-1) : Int32).toInt ∧ ((-1) : Int32).toInt ≤ 19; omega) _ _ (by omega) (by omega) (by omega) (by omega) (fun w261 h265 hr262 hO265 hv265 hp263 hp264 => ?_))
                                        have hu265 := hv265
                                        obtain ⟨x266, rfl⟩ := hr262
                                        show uRun _ (uCall Mt _) _ 277 (_, [(.inl x266)], _, _, _)
                                        refine ur_pop rfl rfl ?_
                                        refine ur_incV (fun z => [some (.inr (.inr (some 69))), some (.inl a1), some (.inl a2), some (.inl a3), some (.inl a4), some (.inl z), some (.inr (.inl y80)), none, some (.inl x138), some (.inl x149), some (.inl x157), some (.inl x164), some (.inl x171)]) rfl rfl (fun _ => rfl) (fun x267 e268 => ?_)
                                        have t269 := ti_add e268 (by omega) (by omega)
                                        refine ur_go rfl ?_
                                        obtain ⟨fs270, hc271⟩ := hO265.mod
                                        obtain ⟨f272, p273, t274⟩ := mf_38 hO265 hc271
                                        have t275 := fI_of hc271 p273
                                        have z276 := any_r x267
                                        exact ih53 x267 _ _ _ _ _ _ _ hO265 (hu54.tr hu265) (by omega) hp264 (by omega)
                                      · have t277 := eq_no c252
                                        refine ur_ldI rfl rfl ?_
                                        exact ur_ret rfl rfl (hQ _ _ ⟨_, rfl⟩ hO54 hu54 (by omega) px55)
                        · have t278 := ne_no c128
                          refine ur_ldI rfl rfl ?_
                          exact ur_ret rfl rfl (hQ _ _ ⟨_, rfl⟩ hO54 hu54 (by omega) px55)
              exact L51 _ 0 (none) (none) (none) (none) (none) (none) _ hO0 un.rf (by omega) hX0 (Nat.lt_succ_self _)
            · have t279 := ne_no c42
              exfalso
              omega
          · have t280 := eq_no c38
            refine ur_push rfl ?_
            exact ur_ret rfl rfl (hQ _ _ ⟨_, rfl⟩ hO0 un.rf (by omega) hX0)
      · have t281 := wi_noL c19 l_1 l_12
        refine ur_push rfl ?_
        exact ur_ret rfl rfl (hQ _ _ ⟨_, rfl⟩ hO0 un.rf (by omega) hX0)
end CU1
