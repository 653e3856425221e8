/-! THE REFERENCE'S words; reigns; printed by program -/
section RWD
set_option maxRecDepth 20000 in
set_option maxHeartbeats 4000000 in
theorem sd_X12_isLodged {d kc ks : Nat} {h0 : aH} {Q : Option aV → aH → Prop} (hO0 : OK h0) (a0 : Int32) (hQ : ∀ r, (∃ q, r = some (.inl (bi q)) ∧ (q = true → (a0.toInt = 1 ∨ a0.toInt = 6)) ∧ (q = false → ¬ (a0.toInt = 1 ∨ a0.toInt = 6))) → Q r h0) : uCall Mt (d + 1) 235 [(.inl a0)] h0 kc ks Q := by
  have l_0 : ((0) : Int32).toInt = 0 := by decide
  have l_1 : ((1) : Int32).toInt = 1 := by decide
  have l_6 : ((6) : Int32).toInt = 6 := by decide
  refine uc_ink [some (.inl a0)] mt_235 (Nat.le_of_ble_eq_true rfl) rfl ?_
  refine ur_ldI rfl rfl ?_
  refine ur_push rfl ?_
  refine ur_if2 rfl (fun c1 => ?_) (fun c1 => ?_)
  · have t2 := eq_to c1
    refine ur_push rfl ?_
    refine ur_go rfl ?_
    exact ur_ret rfl rfl (hQ _ ⟨true, rfl, fun _ => by omega, fun e => absurd e (by decide)⟩ )
  · have t3 := eq_no c1
    refine ur_ldI rfl rfl ?_
    refine ur_push rfl ?_
    refine ur_if2 rfl (fun c4 => ?_) (fun c4 => ?_)
    · have t5 := ne_to c4
      refine ur_push rfl ?_
      exact ur_ret rfl rfl (hQ _ ⟨false, rfl, fun e => absurd e (by decide), fun _ => by omega⟩ )
    · have t6 := ne_no c4
      refine ur_push rfl ?_
      refine ur_go rfl ?_
      exact ur_ret rfl rfl (hQ _ ⟨true, rfl, fun _ => by omega, fun e => absurd e (by decide)⟩ )

set_option maxRecDepth 20000 in
set_option maxHeartbeats 4000000 in
theorem sd_X12_isSided {d kc ks : Nat} {h0 : aH} {Q : Option aV → aH → Prop} (hO0 : OK h0) (a0 : Int32) (hQ : ∀ r, (∃ q, r = some (.inl (bi q)) ∧ (q = true → (a0.toInt = 2 ∨ a0.toInt = 7)) ∧ (q = false → ¬ (a0.toInt = 2 ∨ a0.toInt = 7))) → Q r h0) : uCall Mt (d + 1) 236 [(.inl a0)] h0 kc ks Q := by
  have l_0 : ((0) : Int32).toInt = 0 := by decide
  have l_1 : ((1) : Int32).toInt = 1 := by decide
  have l_2 : ((2) : Int32).toInt = 2 := by decide
  have l_7 : ((7) : Int32).toInt = 7 := by decide
  refine uc_ink [some (.inl a0)] mt_236 (Nat.le_of_ble_eq_true rfl) rfl ?_
  refine ur_ldI rfl rfl ?_
  refine ur_push rfl ?_
  refine ur_if2 rfl (fun c1 => ?_) (fun c1 => ?_)
  · have t2 := eq_to c1
    refine ur_push rfl ?_
    refine ur_go rfl ?_
    exact ur_ret rfl rfl (hQ _ ⟨true, rfl, fun _ => by omega, fun e => absurd e (by decide)⟩ )
  · have t3 := eq_no c1
    refine ur_ldI rfl rfl ?_
    refine ur_push rfl ?_
    refine ur_if2 rfl (fun c4 => ?_) (fun c4 => ?_)
    · have t5 := ne_to c4
      refine ur_push rfl ?_
      exact ur_ret rfl rfl (hQ _ ⟨false, rfl, fun e => absurd e (by decide), fun _ => by omega⟩ )
    · have t6 := ne_no c4
      refine ur_push rfl ?_
      refine ur_go rfl ?_
      exact ur_ret rfl rfl (hQ _ ⟨true, rfl, fun _ => by omega, fun e => absurd e (by decide)⟩ )

set_option maxRecDepth 20000 in
set_option maxHeartbeats 4000000 in
theorem sd_X12_newWord {d kc ks : Nat} {h0 : aH} {Q : Option aV → aH → Prop} (hO0 : OK h0) (hX0 : SX h0) (a1 : Int32) (b1 : 0 ≤ a1.toInt ∧ a1.toInt ≤ 7) (a2 : Int32) (b2 : 0 ≤ a2.toInt ∧ a2.toInt ≤ 8) (a3 : Int32) (a4 : Int32) (a5 : Int32) (a6 : Int32) (b6 : -1 ≤ a6.toInt ∧ a6.toInt ≤ 19) (a7 : Int32) (a8 : Int32) (pre0 : fI h0 38 ≤ 149) (pre1 : a1.toInt = 1 ∨ a1.toInt = 6 → 0 ≤ a8.toInt ∧ a8.toInt ≤ 23) (pre2 : a1.toInt = 2 ∨ a1.toInt = 7 → 0 ≤ a8.toInt ∧ a8.toInt ≤ 1) (pre3 : a1.toInt = 3 → 0 ≤ a8.toInt ∧ a8.toInt < fI h0 38) (hQ : ∀ r h', (∃ x : Int32, r = some (.inl x) ∧ (x.toInt = fI h0 38 ∧ fI h' 38 = fI h0 38 + 1)) → OK h' → un [96, 97, 98, 99, 100, 101, 102, 103, 7938] h0 h' → (fI h' 38 = fI h0 38 + 1) → (SX h') → Q r h') : uCall Mt (d + 2) 238 [(.inr (.inr (some 69))), (.inl a1), (.inl a2), (.inl a3), (.inl a4), (.inl a5), (.inl a6), (.inl a7), (.inl a8)] h0 kc ks Q := by
  have l_m1 : ((-1) : Int32).toInt = -1 := by decide
  have l_1 : ((1) : Int32).toInt = 1 := by decide
  have l_3 : ((3) : Int32).toInt = 3 := by decide
  refine uc_ink [some (.inr (.inr (some 69))), some (.inl a1), some (.inl a2), some (.inl a3), some (.inl a4), some (.inl a5), some (.inl a6), some (.inl a7), some (.inl a8)] mt_238 (Nat.le_of_ble_eq_true rfl) rfl ?_
  obtain ⟨fs1, hc2⟩ := hO0.mod
  obtain ⟨f3, p4, t5⟩ := mf_38 hO0 hc2
  have t6 := fI_of hc2 p4
  obtain ⟨xs8, hc7, hn9, he10⟩ := hO0.int (hO0.fix 96 (by decide) rfl)
  obtain ⟨xs12, hc11, hn13, he14⟩ := hO0.int (hO0.fix 103 (by decide) rfl)
  refine ur_ldA rfl rfl ?_
  refine ur_get rfl hc2 (mf_39 hO0 hc2) ?_
  refine ur_ldA rfl rfl ?_
  refine ur_get rfl hc2 p4 ?_
  refine ur_ldI rfl rfl ?_
  refine ur_astV (W := [96]) (m := 150) rfl hO0 hc7 (by decide) hn9 (by omega) (by show 0 ≤ a1.toInt ∧ a1.toInt ≤ 7; omega) (Or.inr (Or.inr (wid_fix (by decide) (by decide)))) (fun h17 hO17 hv17 d15 hc16 => ?_)
  have hu17 : un [96, 97, 98, 99, 100, 101, 102, 103, 7938] h0 h17 := hv17.mono (by decide)
  refine ur_ldA rfl rfl ?_
  refine ur_get rfl ((d15 _ (by decide)).trans hc2) (mf_40 hO17 ((d15 _ (by decide)).trans hc2)) ?_
  refine ur_ldA rfl rfl ?_
  have t18 := fI_of ((d15 _ (by decide)).trans hc2) p4
  refine ur_get rfl ((d15 _ (by decide)).trans hc2) p4 ?_
  refine ur_ldI rfl rfl ?_
  obtain ⟨xs20, hc19, hn21, he22⟩ := hO17.int (hO17.fix 97 (by decide) rfl)
  refine ur_astV (W := [97]) (m := 150) rfl hO17 hc19 (by decide) hn21 (by omega) (by show 0 ≤ a2.toInt ∧ a2.toInt ≤ 8; omega) (Or.inr (Or.inr (wid_fix (by decide) (by decide)))) (fun h25 hO25 hv25 d23 hc24 => ?_)
  have hu25 : un [96, 97, 98, 99, 100, 101, 102, 103, 7938] h17 h25 := hv25.mono (by decide)
  refine ur_ldA rfl rfl ?_
  refine ur_get rfl ((d23 _ (by decide)).trans ((d15 _ (by decide)).trans hc2)) (mf_41 hO25 ((d23 _ (by decide)).trans ((d15 _ (by decide)).trans hc2))) ?_
  refine ur_ldA rfl rfl ?_
  have t26 := fI_of ((d23 _ (by decide)).trans ((d15 _ (by decide)).trans hc2)) p4
  refine ur_get rfl ((d23 _ (by decide)).trans ((d15 _ (by decide)).trans hc2)) p4 ?_
  refine ur_ldI rfl rfl ?_
  obtain ⟨xs28, hc27, hn29, he30⟩ := hO25.int (hO25.fix 98 (by decide) rfl)
  refine ur_astV (W := [98]) (m := 150) rfl hO25 hc27 (by decide) hn29 (by omega) (any_r _) (Or.inr (Or.inr (wid_fix (by decide) (by decide)))) (fun h33 hO33 hv33 d31 hc32 => ?_)
  have hu33 : un [96, 97, 98, 99, 100, 101, 102, 103, 7938] h25 h33 := hv33.mono (by decide)
  refine ur_ldA rfl rfl ?_
  have hc34 := ((d31 _ (by decide)).trans ((d23 _ (by decide)).trans ((d15 _ (by decide)).trans hc2)))
  refine ur_get rfl hc34 (mf_42 hO33 hc34) ?_
  refine ur_ldA rfl rfl ?_
  have t35 := fI_of hc34 p4
  refine ur_get rfl hc34 p4 ?_
  refine ur_ldI rfl rfl ?_
  obtain ⟨xs37, hc36, hn38, he39⟩ := hO33.int (hO33.fix 99 (by decide) rfl)
  refine ur_astV (W := [99]) (m := 150) rfl hO33 hc36 (by decide) hn38 (by omega) (any_r _) (Or.inr (Or.inr (wid_fix (by decide) (by decide)))) (fun h42 hO42 hv42 d40 hc41 => ?_)
  have hu42 : un [96, 97, 98, 99, 100, 101, 102, 103, 7938] h33 h42 := hv42.mono (by decide)
  refine ur_ldA rfl rfl ?_
  refine ur_get rfl ((d40 _ (by decide)).trans hc34) (mf_43 hO42 ((d40 _ (by decide)).trans hc34)) ?_
  refine ur_ldA rfl rfl ?_
  have t43 := fI_of ((d40 _ (by decide)).trans hc34) p4
  refine ur_get rfl ((d40 _ (by decide)).trans hc34) p4 ?_
  refine ur_ldI rfl rfl ?_
  obtain ⟨xs45, hc44, hn46, he47⟩ := hO42.int (hO42.fix 100 (by decide) rfl)
  refine ur_astV (W := [100]) (m := 150) rfl hO42 hc44 (by decide) hn46 (by omega) (any_r _) (Or.inr (Or.inr (wid_fix (by decide) (by decide)))) (fun h50 hO50 hv50 d48 hc49 => ?_)
  have hu50 : un [96, 97, 98, 99, 100, 101, 102, 103, 7938] h42 h50 := hv50.mono (by decide)
  refine ur_ldA rfl rfl ?_
  refine ur_get rfl ((d48 _ (by decide)).trans ((d40 _ (by decide)).trans hc34)) (mf_44 hO50 ((d48 _ (by decide)).trans ((d40 _ (by decide)).trans hc34))) ?_
  refine ur_ldA rfl rfl ?_
  have t51 := fI_of ((d48 _ (by decide)).trans ((d40 _ (by decide)).trans hc34)) p4
  refine ur_get rfl ((d48 _ (by decide)).trans ((d40 _ (by decide)).trans hc34)) p4 ?_
  refine ur_ldI rfl rfl ?_
  obtain ⟨xs53, hc52, hn54, he55⟩ := hO50.int (hO50.fix 101 (by decide) rfl)
  refine ur_astV (W := [101]) (m := 150) rfl hO50 hc52 (by decide) hn54 (by omega) (by show -1 ≤ a6.toInt ∧ a6.toInt ≤ 19; omega) (Or.inr (Or.inr (wid_fix (by decide) (by decide)))) (fun h58 hO58 hv58 d56 hc57 => ?_)
  have hu58 : un [96, 97, 98, 99, 100, 101, 102, 103, 7938] h50 h58 := hv58.mono (by decide)
  refine ur_ldA rfl rfl ?_
  have hc59 := ((d56 _ (by decide)).trans ((d48 _ (by decide)).trans ((d40 _ (by decide)).trans hc34)))
  refine ur_get rfl hc59 (mf_45 hO58 hc59) ?_
  refine ur_ldA rfl rfl ?_
  have t60 := fI_of hc59 p4
  refine ur_get rfl hc59 p4 ?_
  refine ur_ldI rfl rfl ?_
  obtain ⟨xs62, hc61, hn63, he64⟩ := hO58.int (hO58.fix 102 (by decide) rfl)
  refine ur_astV (W := [102]) (m := 150) rfl hO58 hc61 (by decide) hn63 (by omega) (any_r _) (Or.inr (Or.inr (wid_fix (by decide) (by decide)))) (fun h67 hO67 hv67 d65 hc66 => ?_)
  have hu67 : un [96, 97, 98, 99, 100, 101, 102, 103, 7938] h58 h67 := hv67.mono (by decide)
  refine ur_ldA rfl rfl ?_
  refine ur_get rfl ((d65 _ (by decide)).trans hc59) (mf_46 hO67 ((d65 _ (by decide)).trans hc59)) ?_
  refine ur_ldA rfl rfl ?_
  have t68 := fI_of ((d65 _ (by decide)).trans hc59) p4
  refine ur_get rfl ((d65 _ (by decide)).trans hc59) p4 ?_
  refine ur_ldI rfl rfl ?_
  refine ur_inl rfl rfl (Nat.le_of_ble_eq_true rfl) (Nat.le_of_ble_eq_true rfl) (sd_X12_isLodged hO67 _ (fun w69 hr70 => ?_))
  obtain ⟨b71, rfl, t72, t73⟩ := hr70
  show uRun _ (uCall Mt _) _ 86 (_, [(.inl (bi b71)), (.inl f3), (.inr (.inr (some 103)))], _, _, _)
  refine ur_neB rfl (fun c74 => ?_) (fun c74 => ?_)
  · have t75 := t72 c74
    clear t72 t73
    refine ur_ldI rfl rfl ?_
    refine ur_go rfl ?_
    refine ur_astV (W := [103]) (m := 150) rfl hO67 ((d65 _ (by decide)).trans ((d56 _ (by decide)).trans ((d48 _ (by decide)).trans ((d40 _ (by decide)).trans ((d31 _ (by decide)).trans ((d23 _ (by decide)).trans ((d15 _ (by decide)).trans hc11))))))) (by decide) hn13 (by omega) (by show -1 ≤ a8.toInt ∧ a8.toInt ≤ 149; omega) (Or.inr (Or.inr (wid_fix (by decide) (by decide)))) (fun h78 hO78 hv78 d76 hc77 => ?_)
    have hu78 : un [96, 97, 98, 99, 100, 101, 102, 103, 7938] h67 h78 := hv78.mono (by decide)
    refine ur_ldA rfl rfl ?_
    refine ur_dup rfl rfl ?_
    have t79 := fI_of ((d76 _ (by decide)).trans ((d65 _ (by decide)).trans hc59)) p4
    refine ur_get rfl ((d76 _ (by decide)).trans ((d65 _ (by decide)).trans hc59)) p4 ?_
    refine ur_push rfl ?_
    refine ur_binV rfl (fun x80 e81 => ?_)
    have z82 := any_r f3
    have t83 := ti_add e81 (by omega) (by omega)
    refine ur_putM (W := [7938]) rfl hO78 ((d76 _ (by decide)).trans ((d65 _ (by decide)).trans hc59)) (by decide) rfl (ms_38 (hO78.msh ((d76 _ (by decide)).trans ((d65 _ (by decide)).trans hc59))) (show 0 ≤ x80.toInt ∧ x80.toInt ≤ 150 by omega)) (Or.inr (by decide)) (fun h85 hO85 hv85 d84 hc86 => ?_)
    have hu85 : un [96, 97, 98, 99, 100, 101, 102, 103, 7938] h78 h85 := hv85.mono (by decide)
    have t87 := fI_of hc86 (gs_eq p4)
    refine ur_ldA rfl rfl ?_
    refine ur_get rfl hc86 (gs_eq p4) ?_
    refine ur_push rfl ?_
    refine ur_binV rfl (fun x88 e89 => ?_)
    have z90 := any_r x80
    have t91 := ti_sub e89 (by omega) (by omega)
    have hc92 := ((d84 _ (by decide)).trans ((d76 _ (by decide)).trans ((d65 _ (by decide)).trans ((d56 _ (by decide)).trans ((d48 _ (by decide)).trans ((d40 _ (by decide)).trans ((d31 _ (by decide)).trans ((d23 _ (by decide)).trans hc16))))))))
    exact ur_ret rfl rfl (hQ _ _ ⟨_, rfl, by omega⟩ hO85 (hu17.tr (hu25.tr (hu33.tr (hu42.tr (hu50.tr (hu58.tr (hu67.tr (hu78.tr hu85)))))))) (by omega) ⟨hX0.1.un hO0 hO85 (hu17.tr (hu25.tr (hu33.tr (hu42.tr (hu50.tr (hu58.tr (hu67.tr (hu78.tr hu85)))))))) (by decide) (by decide), hX0.2.1.un hO0 hO85 (hu17.tr (hu25.tr (hu33.tr (hu42.tr (hu50.tr (hu58.tr (hu67.tr (hu78.tr hu85)))))))) (by decide) (by decide), hX0.2.2.1.un hO0 hO85 (hu17.tr (hu25.tr (hu33.tr (hu42.tr (hu50.tr (hu58.tr (hu67.tr (hu78.tr hu85)))))))) (by decide) (by decide), WX.push (j := f3) (x := a1) (y := a8) hX0.2.2.2.1 hc7 hc92 hc11 ((d84 _ (by decide)).trans hc77) (by omega) (by omega) (by omega) (by omega), hX0.2.2.2.2.un hO0 (hu17.tr (hu25.tr (hu33.tr (hu42.tr (hu50.tr (hu58.tr (hu67.tr (hu78.tr hu85)))))))) (by decide)⟩)
  · have t93 := t73 c74
    clear t72 t73
    refine ur_ldI rfl rfl ?_
    refine ur_inl rfl rfl (Nat.le_of_ble_eq_true rfl) (Nat.le_of_ble_eq_true rfl) (sd_X12_isSided hO67 _ (fun w94 hr95 => ?_))
    obtain ⟨b96, rfl, t97, t98⟩ := hr95
    show uRun _ (uCall Mt _) _ 93 (_, [(.inl (bi b96)), (.inl f3), (.inr (.inr (some 103)))], _, _, _)
    refine ur_neB rfl (fun c99 => ?_) (fun c99 => ?_)
    · have t100 := t97 c99
      clear t97 t98
      refine ur_ldI rfl rfl ?_
      refine ur_go rfl ?_
      refine ur_astV (W := [103]) (m := 150) rfl hO67 ((d65 _ (by decide)).trans ((d56 _ (by decide)).trans ((d48 _ (by decide)).trans ((d40 _ (by decide)).trans ((d31 _ (by decide)).trans ((d23 _ (by decide)).trans ((d15 _ (by decide)).trans hc11))))))) (by decide) hn13 (by omega) (by show -1 ≤ a8.toInt ∧ a8.toInt ≤ 149; omega) (Or.inr (Or.inr (wid_fix (by decide) (by decide)))) (fun h103 hO103 hv103 d101 hc102 => ?_)
      have hu103 : un [96, 97, 98, 99, 100, 101, 102, 103, 7938] h67 h103 := hv103.mono (by decide)
      refine ur_ldA rfl rfl ?_
      refine ur_dup rfl rfl ?_
      have hc104 := ((d101 _ (by decide)).trans ((d65 _ (by decide)).trans hc59))
      have t105 := fI_of hc104 p4
      refine ur_get rfl hc104 p4 ?_
      refine ur_push rfl ?_
      refine ur_binV rfl (fun x106 e107 => ?_)
      have z108 := any_r f3
      have t109 := ti_add e107 (by omega) (by omega)
      refine ur_putM (W := [7938]) rfl hO103 hc104 (by decide) rfl (ms_38 (hO103.msh hc104) (show 0 ≤ x106.toInt ∧ x106.toInt ≤ 150 by omega)) (Or.inr (by decide)) (fun h111 hO111 hv111 d110 hc112 => ?_)
      have hu111 : un [96, 97, 98, 99, 100, 101, 102, 103, 7938] h103 h111 := hv111.mono (by decide)
      have t113 := fI_of hc112 (gs_eq p4)
      refine ur_ldA rfl rfl ?_
      refine ur_get rfl hc112 (gs_eq p4) ?_
      refine ur_push rfl ?_
      refine ur_binV rfl (fun x114 e115 => ?_)
      have z116 := any_r x106
      have t117 := ti_sub e115 (by omega) (by omega)
      have hc118 := ((d110 _ (by decide)).trans ((d101 _ (by decide)).trans ((d65 _ (by decide)).trans ((d56 _ (by decide)).trans ((d48 _ (by decide)).trans ((d40 _ (by decide)).trans ((d31 _ (by decide)).trans ((d23 _ (by decide)).trans hc16))))))))
      exact ur_ret rfl rfl (hQ _ _ ⟨_, rfl, by omega⟩ hO111 (hu17.tr (hu25.tr (hu33.tr (hu42.tr (hu50.tr (hu58.tr (hu67.tr (hu103.tr hu111)))))))) (by omega) ⟨hX0.1.un hO0 hO111 (hu17.tr (hu25.tr (hu33.tr (hu42.tr (hu50.tr (hu58.tr (hu67.tr (hu103.tr hu111)))))))) (by decide) (by decide), hX0.2.1.un hO0 hO111 (hu17.tr (hu25.tr (hu33.tr (hu42.tr (hu50.tr (hu58.tr (hu67.tr (hu103.tr hu111)))))))) (by decide) (by decide), hX0.2.2.1.un hO0 hO111 (hu17.tr (hu25.tr (hu33.tr (hu42.tr (hu50.tr (hu58.tr (hu67.tr (hu103.tr hu111)))))))) (by decide) (by decide), WX.push (j := f3) (x := a1) (y := a8) hX0.2.2.2.1 hc7 hc118 hc11 ((d110 _ (by decide)).trans hc102) (by omega) (by omega) (by omega) (by omega), hX0.2.2.2.2.un hO0 (hu17.tr (hu25.tr (hu33.tr (hu42.tr (hu50.tr (hu58.tr (hu67.tr (hu103.tr hu111)))))))) (by decide)⟩)
    · have t119 := t98 c99
      clear t97 t98
      refine ur_ldI rfl rfl ?_
      refine ur_push rfl ?_
      refine ur_if2 rfl (fun c120 => ?_) (fun c120 => ?_)
      · have t121 := ne_to c120
        refine ur_push rfl ?_
        refine ur_astV (W := [103]) (m := 150) rfl hO67 ((d65 _ (by decide)).trans ((d56 _ (by decide)).trans ((d48 _ (by decide)).trans ((d40 _ (by decide)).trans ((d31 _ (by decide)).trans ((d23 _ (by decide)).trans ((d15 _ (by decide)).trans hc11))))))) (by decide) hn13 (by omega) (by show -1 ≤ ((-1) : Int32).toInt ∧ ((-1) : Int32).toInt ≤ 149; omega) (Or.inr (Or.inr (wid_fix (by decide) (by decide)))) (fun h124 hO124 hv124 d122 hc123 => ?_)
        have hu124 : un [96, 97, 98, 99, 100, 101, 102, 103, 7938] h67 h124 := hv124.mono (by decide)
        refine ur_ldA rfl rfl ?_
        refine ur_dup rfl rfl ?_
        have hc125 := ((d122 _ (by decide)).trans ((d65 _ (by decide)).trans hc59))
        have t126 := fI_of hc125 p4
        refine ur_get rfl hc125 p4 ?_
        refine ur_push rfl ?_
        refine ur_binV rfl (fun x127 e128 => ?_)
        have z129 := any_r f3
        have t130 := ti_add e128 (by omega) (by omega)
        refine ur_putM (W := [7938]) rfl hO124 hc125 (by decide) rfl (ms_38 (hO124.msh hc125) (show 0 ≤ x127.toInt ∧ x127.toInt ≤ 150 by omega)) (Or.inr (by decide)) (fun h132 hO132 hv132 d131 hc133 => ?_)
        have hu132 : un [96, 97, 98, 99, 100, 101, 102, 103, 7938] h124 h132 := hv132.mono (by decide)
        have t134 := fI_of hc133 (gs_eq p4)
        refine ur_ldA rfl rfl ?_
        refine ur_get rfl hc133 (gs_eq p4) ?_
        refine ur_push rfl ?_
        refine ur_binV rfl (fun x135 e136 => ?_)
        have z137 := any_r x127
        have t138 := ti_sub e136 (by omega) (by omega)
        have hc139 := ((d131 _ (by decide)).trans ((d122 _ (by decide)).trans ((d65 _ (by decide)).trans ((d56 _ (by decide)).trans ((d48 _ (by decide)).trans ((d40 _ (by decide)).trans ((d31 _ (by decide)).trans ((d23 _ (by decide)).trans hc16))))))))
        exact ur_ret rfl rfl (hQ _ _ ⟨_, rfl, by omega⟩ hO132 (hu17.tr (hu25.tr (hu33.tr (hu42.tr (hu50.tr (hu58.tr (hu67.tr (hu124.tr hu132)))))))) (by omega) ⟨hX0.1.un hO0 hO132 (hu17.tr (hu25.tr (hu33.tr (hu42.tr (hu50.tr (hu58.tr (hu67.tr (hu124.tr hu132)))))))) (by decide) (by decide), hX0.2.1.un hO0 hO132 (hu17.tr (hu25.tr (hu33.tr (hu42.tr (hu50.tr (hu58.tr (hu67.tr (hu124.tr hu132)))))))) (by decide) (by decide), hX0.2.2.1.un hO0 hO132 (hu17.tr (hu25.tr (hu33.tr (hu42.tr (hu50.tr (hu58.tr (hu67.tr (hu124.tr hu132)))))))) (by decide) (by decide), WX.push (j := f3) (x := a1) (y := (-1)) hX0.2.2.2.1 hc7 hc139 hc11 ((d131 _ (by decide)).trans hc123) (by omega) (by omega) (by omega) (by omega), hX0.2.2.2.2.un hO0 (hu17.tr (hu25.tr (hu33.tr (hu42.tr (hu50.tr (hu58.tr (hu67.tr (hu124.tr hu132)))))))) (by decide)⟩)
      · have t140 := ne_no c120
        refine ur_ldI rfl rfl ?_
        refine ur_go rfl ?_
        refine ur_astV (W := [103]) (m := 150) rfl hO67 ((d65 _ (by decide)).trans ((d56 _ (by decide)).trans ((d48 _ (by decide)).trans ((d40 _ (by decide)).trans ((d31 _ (by decide)).trans ((d23 _ (by decide)).trans ((d15 _ (by decide)).trans hc11))))))) (by decide) hn13 (by omega) (by show -1 ≤ a8.toInt ∧ a8.toInt ≤ 149; omega) (Or.inr (Or.inr (wid_fix (by decide) (by decide)))) (fun h143 hO143 hv143 d141 hc142 => ?_)
        have hu143 : un [96, 97, 98, 99, 100, 101, 102, 103, 7938] h67 h143 := hv143.mono (by decide)
        refine ur_ldA rfl rfl ?_
        refine ur_dup rfl rfl ?_
        have hc144 := ((d141 _ (by decide)).trans ((d65 _ (by decide)).trans hc59))
        have t145 := fI_of hc144 p4
        refine ur_get rfl hc144 p4 ?_
        refine ur_push rfl ?_
        refine ur_binV rfl (fun x146 e147 => ?_)
        have z148 := any_r f3
        have t149 := ti_add e147 (by omega) (by omega)
        refine ur_putM (W := [7938]) rfl hO143 hc144 (by decide) rfl (ms_38 (hO143.msh hc144) (show 0 ≤ x146.toInt ∧ x146.toInt ≤ 150 by omega)) (Or.inr (by decide)) (fun h151 hO151 hv151 d150 hc152 => ?_)
        have hu151 : un [96, 97, 98, 99, 100, 101, 102, 103, 7938] h143 h151 := hv151.mono (by decide)
        have t153 := fI_of hc152 (gs_eq p4)
        refine ur_ldA rfl rfl ?_
        refine ur_get rfl hc152 (gs_eq p4) ?_
        refine ur_push rfl ?_
        refine ur_binV rfl (fun x154 e155 => ?_)
        have z156 := any_r x146
        have t157 := ti_sub e155 (by omega) (by omega)
        have hc158 := ((d150 _ (by decide)).trans ((d141 _ (by decide)).trans ((d65 _ (by decide)).trans ((d56 _ (by decide)).trans ((d48 _ (by decide)).trans ((d40 _ (by decide)).trans ((d31 _ (by decide)).trans ((d23 _ (by decide)).trans hc16))))))))
        exact ur_ret rfl rfl (hQ _ _ ⟨_, rfl, by omega⟩ hO151 (hu17.tr (hu25.tr (hu33.tr (hu42.tr (hu50.tr (hu58.tr (hu67.tr (hu143.tr hu151)))))))) (by omega) ⟨hX0.1.un hO0 hO151 (hu17.tr (hu25.tr (hu33.tr (hu42.tr (hu50.tr (hu58.tr (hu67.tr (hu143.tr hu151)))))))) (by decide) (by decide), hX0.2.1.un hO0 hO151 (hu17.tr (hu25.tr (hu33.tr (hu42.tr (hu50.tr (hu58.tr (hu67.tr (hu143.tr hu151)))))))) (by decide) (by decide), hX0.2.2.1.un hO0 hO151 (hu17.tr (hu25.tr (hu33.tr (hu42.tr (hu50.tr (hu58.tr (hu67.tr (hu143.tr hu151)))))))) (by decide) (by decide), WX.push (j := f3) (x := a1) (y := a8) hX0.2.2.2.1 hc7 hc158 hc11 ((d150 _ (by decide)).trans hc142) (by omega) (by omega) (by omega) (by omega), hX0.2.2.2.2.un hO0 (hu17.tr (hu25.tr (hu33.tr (hu42.tr (hu50.tr (hu58.tr (hu67.tr (hu143.tr hu151)))))))) (by decide)⟩)

set_option maxRecDepth 20000 in
set_option maxHeartbeats 4000000 in
theorem sd_X12_word {d kc ks : Nat} {h0 : aH} {Q : Option aV → aH → Prop} (hO0 : OK h0) (hX0 : SX h0) (a1 : Int32) (a2 : Int32) (a3 : Int32) (hQ : ∀ r h', (∃ x : Int32, r = some (.inl x) ∧ (¬ ((0 ≤ a1.toInt ∧ a1.toInt / 10000 ≤ 8 ∧ a1.toInt / 100 % 100 ≤ 7 ∧ 0 ≤ a2.toInt ∧ a2.toInt ≤ 400) ∧ (a1.toInt % 100 = 99 ∨ (a1.toInt % 100 ≤ 19 ∧ gI h0 91 (a1.toInt % 100) ≠ 0)) ∧ ((a1.toInt / 100 % 100 = 1 ∨ a1.toInt / 100 % 100 = 6 → 0 ≤ a3.toInt ∧ a3.toInt ≤ 23) ∧ (a1.toInt / 100 % 100 = 2 ∨ a1.toInt / 100 % 100 = 7 → 0 ≤ a3.toInt ∧ a3.toInt ≤ 1) ∧ (a1.toInt / 100 % 100 = 3 → 0 ≤ a3.toInt ∧ a3.toInt < fI h0 38))) ∧ x.toInt = -1 ∧ fI h' 38 = fI h0 38 ∨ ((0 ≤ a1.toInt ∧ a1.toInt / 10000 ≤ 8 ∧ a1.toInt / 100 % 100 ≤ 7 ∧ 0 ≤ a2.toInt ∧ a2.toInt ≤ 400) ∧ (a1.toInt % 100 = 99 ∨ (a1.toInt % 100 ≤ 19 ∧ gI h0 91 (a1.toInt % 100) ≠ 0)) ∧ ((a1.toInt / 100 % 100 = 1 ∨ a1.toInt / 100 % 100 = 6 → 0 ≤ a3.toInt ∧ a3.toInt ≤ 23) ∧ (a1.toInt / 100 % 100 = 2 ∨ a1.toInt / 100 % 100 = 7 → 0 ≤ a3.toInt ∧ a3.toInt ≤ 1) ∧ (a1.toInt / 100 % 100 = 3 → 0 ≤ a3.toInt ∧ a3.toInt < fI h0 38))) ∧ 150 ≤ fI h0 38 ∧ x.toInt = -3 ∧ fI h' 38 = fI h0 38 ∨ ((0 ≤ a1.toInt ∧ a1.toInt / 10000 ≤ 8 ∧ a1.toInt / 100 % 100 ≤ 7 ∧ 0 ≤ a2.toInt ∧ a2.toInt ≤ 400) ∧ (a1.toInt % 100 = 99 ∨ (a1.toInt % 100 ≤ 19 ∧ gI h0 91 (a1.toInt % 100) ≠ 0)) ∧ ((a1.toInt / 100 % 100 = 1 ∨ a1.toInt / 100 % 100 = 6 → 0 ≤ a3.toInt ∧ a3.toInt ≤ 23) ∧ (a1.toInt / 100 % 100 = 2 ∨ a1.toInt / 100 % 100 = 7 → 0 ≤ a3.toInt ∧ a3.toInt ≤ 1) ∧ (a1.toInt / 100 % 100 = 3 → 0 ≤ a3.toInt ∧ a3.toInt < fI h0 38))) ∧ fI h0 38 < 150 ∧ x.toInt = fI h0 38 ∧ fI h' 38 = fI h0 38 + 1)) → OK h' → un [96, 97, 98, 99, 100, 101, 102, 103, 7938] h0 h' → (fI h' 38 ≤ fI h0 38 + 1) → (SX h') → Q r h') : uCall Mt (d + 3) 239 [(.inr (.inr (some 69))), (.inl a1), (.inl a2), (.inl a3)] h0 kc ks Q := by
  have l_m3 : ((-3) : Int32).toInt = -3 := by decide
  have l_m1 : ((-1) : Int32).toInt = -1 := by decide
  have l_0 : ((0) : Int32).toInt = 0 := by decide
  have l_1 : ((1) : Int32).toInt = 1 := by decide
  have l_3 : ((3) : Int32).toInt = 3 := by decide
  have l_7 : ((7) : Int32).toInt = 7 := by decide
  have l_8 : ((8) : Int32).toInt = 8 := by decide
  have l_20 : ((20) : Int32).toInt = 20 := by decide
  have l_23 : ((23) : Int32).toInt = 23 := by decide
  have l_99 : ((99) : Int32).toInt = 99 := by decide
  have l_100 : ((100) : Int32).toInt = 100 := by decide
  have l_150 : ((150) : Int32).toInt = 150 := by decide
  have l_400 : ((400) : Int32).toInt = 400 := by decide
  have l_10000 : ((10000) : Int32).toInt = 10000 := by decide
  refine uc_ink [some (.inr (.inr (some 69))), some (.inl a1), some (.inl a2), some (.inl a3), none, none, none] mt_239 (Nat.le_of_ble_eq_true rfl) rfl ?_
  obtain ⟨fs1, hc2⟩ := hO0.mod
  obtain ⟨f3, p4, t5⟩ := mf_38 hO0 hc2
  have t6 := fI_of hc2 p4
  refine ur_ldI rfl rfl ?_
  refine ur_push rfl ?_
  refine ur_divV rfl (by decide) (fun x7 e8 => ?_)
  have z9 := any_r a1
  have t10 : 0 ≤ a1.toInt → x7.toInt = a1.toInt / 10000 := fun q => ti_div e8 l_10000 (by decide) q
  refine ur_svIk [some (.inr (.inr (some 69))), some (.inl a1), some (.inl a2), some (.inl a3), some (.inl x7), none, none] rfl rfl ?_
  refine ur_ldI rfl rfl ?_
  refine ur_push rfl ?_
  refine ur_divV rfl (by decide) (fun x11 e12 => ?_)
  have t13 : 0 ≤ a1.toInt → x11.toInt = a1.toInt / 100 := fun q => ti_div e12 l_100 (by decide) q
  refine ur_push rfl ?_
  refine ur_divV rfl (by decide) (fun x14 e15 => ?_)
  have z16 := any_r x11
  have t17 : 0 ≤ x11.toInt → x14.toInt = x11.toInt % 100 := fun q => ti_rem e15 l_100 (by decide) q
  refine ur_svIk [some (.inr (.inr (some 69))), some (.inl a1), some (.inl a2), some (.inl a3), some (.inl x7), some (.inl x14), none] rfl rfl ?_
  refine ur_ldI rfl rfl ?_
  refine ur_push rfl ?_
  refine ur_divV rfl (by decide) (fun x18 e19 => ?_)
  have t20 : 0 ≤ a1.toInt → x18.toInt = a1.toInt % 100 := fun q => ti_rem e19 l_100 (by decide) q
  refine ur_svIk [some (.inr (.inr (some 69))), some (.inl a1), some (.inl a2), some (.inl a3), some (.inl x7), some (.inl x14), some (.inl x18)] rfl rfl ?_
  refine ur_ldI rfl rfl ?_
  have t21 : 0 ≤ a1.toInt → gI h0 91 (a1.toInt % 100) = gI h0 91 x18.toInt := fun q => by rw [show a1.toInt % 100 = x18.toInt by omega]
  refine ur_if1 rfl (fun c22 => ?_) (fun c22 => ?_)
  · have t23 := lt_to c22
    refine ur_push rfl ?_
    exact ur_ret rfl rfl (hQ _ _ ⟨_, rfl, Or.inl ⟨fun q => by omega, by omega, by omega⟩⟩ hO0 un.rf (by omega) hX0)
  · have t24 := lt_no c22
    replace t10 := t10 (by omega)
    replace t13 := t13 (by omega)
    replace t17 := t17 (by omega)
    replace t20 := t20 (by omega)
    replace t21 := t21 (by omega)
    refine ur_ldI rfl rfl ?_
    refine ur_callv rfl rfl (Nat.le_of_ble_eq_true rfl) (Nat.le_of_ble_eq_true rfl) rfl (sq_isPpl _ _) ?_
    refine ur_eqB rfl (fun c27 => ?_) (fun c27 => ?_)
    · have t28 := wi_noL c27 l_0 l_8
      refine ur_push rfl ?_
      exact ur_ret rfl rfl (hQ _ _ ⟨_, rfl, Or.inl ⟨fun q => by omega, by omega, by omega⟩⟩ hO0 un.rf (by omega) hX0)
    · have t29 := wi_toL c27 l_0 l_8
      refine ur_ldI rfl rfl ?_
      refine ur_push rfl ?_
      refine ur_push rfl ?_
      refine ur_callv rfl rfl (Nat.le_of_ble_eq_true rfl) (Nat.le_of_ble_eq_true rfl) rfl (sp_in _ _ _ _ _) ?_
      refine ur_eqB rfl (fun c32 => ?_) (fun c32 => ?_)
      · have t33 := wi_noL c32 l_0 l_7
        refine ur_push rfl ?_
        exact ur_ret rfl rfl (hQ _ _ ⟨_, rfl, Or.inl ⟨fun q => by omega, by omega, by omega⟩⟩ hO0 un.rf (by omega) hX0)
      · have t34 := wi_toL c32 l_0 l_7
        refine ur_ldI rfl rfl ?_
        refine ur_push rfl ?_
        refine ur_if2 rfl (fun c35 => ?_) (fun c35 => ?_)
        · have t36 := eq_to c35
          refine ur_ldI rfl rfl ?_
          refine ur_push rfl ?_
          refine ur_push rfl ?_
          refine ur_callv rfl rfl (Nat.le_of_ble_eq_true rfl) (Nat.le_of_ble_eq_true rfl) rfl (sp_in _ _ _ _ _) ?_
          refine ur_neB rfl (fun c39 => ?_) (fun c39 => ?_)
          · have t40 := wi_toL c39 l_0 l_400
            refine ur_ldI rfl rfl ?_
            refine ur_inl rfl rfl (Nat.le_of_ble_eq_true rfl) (Nat.le_of_ble_eq_true rfl) (sd_X12_isLodged hO0 _ (fun w41 hr42 => ?_))
            obtain ⟨b43, rfl, t44, t45⟩ := hr42
            show uRun _ (uCall Mt _) _ 87 (_, [(.inl (bi b43))], _, _, _)
            refine ur_eqB rfl (fun c46 => ?_) (fun c46 => ?_)
            · have t47 := t45 c46
              clear t44 t45
              refine ur_ldI rfl rfl ?_
              refine ur_inl rfl rfl (Nat.le_of_ble_eq_true rfl) (Nat.le_of_ble_eq_true rfl) (sd_X12_isSided hO0 _ (fun w48 hr49 => ?_))
              obtain ⟨b50, rfl, t51, t52⟩ := hr49
              show uRun _ (uCall Mt _) _ 105 (_, [(.inl (bi b50))], _, _, _)
              refine ur_eqB rfl (fun c53 => ?_) (fun c53 => ?_)
              · have t54 := t52 c53
                clear t51 t52
                refine ur_ldI rfl rfl ?_
                refine ur_push rfl ?_
                refine ur_if2 rfl (fun c55 => ?_) (fun c55 => ?_)
                · have t56 := ne_to c55
                  refine ur_ldA rfl rfl ?_
                  refine ur_get rfl hc2 p4 ?_
                  refine ur_push rfl ?_
                  refine ur_if2 rfl (fun c57 => ?_) (fun c57 => ?_)
                  · have t58 := ne_to c57
                    refine ur_ldA rfl rfl ?_
                    refine ur_ldI rfl rfl ?_
                    refine ur_ldI rfl rfl ?_
                    refine ur_ldA rfl rfl ?_
                    obtain ⟨f59, p60⟩ := mf_47 hO0 hc2
                    refine ur_get rfl hc2 p60 ?_
                    refine ur_ldA rfl rfl ?_
                    obtain ⟨f61, p62⟩ := mf_48 hO0 hc2
                    refine ur_get rfl hc2 p62 ?_
                    refine ur_ldA rfl rfl ?_
                    obtain ⟨f63, p64⟩ := mf_49 hO0 hc2
                    refine ur_get rfl hc2 p64 ?_
                    refine ur_ldI rfl rfl ?_
                    refine ur_push rfl ?_
                    refine ur_if2 rfl (fun c65 => ?_) (fun c65 => ?_)
                    · have t66 := ne_to c65
                      exfalso
                      omega
                    · have t67 := ne_no c65
                      refine ur_push rfl ?_
                      refine ur_go rfl ?_
                      refine ur_ldI rfl rfl ?_
                      refine ur_ldI rfl rfl ?_
                      refine ur_inl rfl (rcv_of hc2) (Nat.le_of_ble_eq_true rfl) (Nat.le_of_ble_eq_true rfl) (sd_X12_newWord hO0 hX0 _ (by show 0 ≤ x14.toInt ∧ x14.toInt ≤ 7; omega) _ (by show 0 ≤ x7.toInt ∧ x7.toInt ≤ 8; omega) _ _ _ _ (by show -1 ≤ ((-1) : Int32).toInt ∧ ((-1) : Int32).toInt ≤ 19; omega) _ _ (by omega) (by omega) (by omega) (by omega) (fun w68 h72 hr69 hO72 hv72 hp70 hp71 => ?_))
                      have hu72 := hv72
                      obtain ⟨x73, rfl, t74⟩ := hr69
                      show uRun _ (uCall Mt _) _ 181 (_, [(.inl x73)], _, _, _)
                      obtain ⟨fs75, hc76⟩ := hO72.mod
                      obtain ⟨f77, p78, t79⟩ := mf_38 hO72 hc76
                      have t80 := fI_of hc76 p78
                      exact ur_ret rfl rfl (hQ _ _ ⟨_, rfl, Or.inr (Or.inr ⟨⟨⟨by omega, by omega, by omega, by omega, by omega⟩, by omega, fun q => by omega, fun q => by omega, fun q => by omega⟩, by omega, by omega, by omega⟩)⟩ hO72 hu72 (by omega) hp71)
                  · have t81 := ne_no c57
                    refine ur_push rfl ?_
                    exact ur_ret rfl rfl (hQ _ _ ⟨_, rfl, Or.inr (Or.inl ⟨⟨⟨by omega, by omega, by omega, by omega, by omega⟩, by omega, fun q => by omega, fun q => by omega, fun q => by omega⟩, by omega, by omega, by omega⟩)⟩ hO0 un.rf (by omega) hX0)
                · have t82 := ne_no c55
                  refine ur_ldA rfl rfl ?_
                  refine ur_ldI rfl rfl ?_
                  refine ur_inl rfl (rcv_of hc2) (Nat.le_of_ble_eq_true rfl) (Nat.le_of_ble_eq_true rfl) (sd_X12_isWord hO0 _ (fun w83 hr84 => ?_))
                  obtain ⟨b85, rfl, t86, t87⟩ := hr84
                  show uRun _ (uCall Mt _) _ 128 (_, [(.inl (bi b85))], _, _, _)
                  refine ur_neB rfl (fun c88 => ?_) (fun c88 => ?_)
                  · have t89 := t86 c88
                    clear t86 t87
                    refine ur_ldA rfl rfl ?_
                    refine ur_get rfl hc2 p4 ?_
                    refine ur_push rfl ?_
                    refine ur_if2 rfl (fun c90 => ?_) (fun c90 => ?_)
                    · have t91 := ne_to c90
                      refine ur_ldA rfl rfl ?_
                      refine ur_ldI rfl rfl ?_
                      refine ur_ldI rfl rfl ?_
                      refine ur_ldA rfl rfl ?_
                      obtain ⟨f92, p93⟩ := mf_47 hO0 hc2
                      refine ur_get rfl hc2 p93 ?_
                      refine ur_ldA rfl rfl ?_
                      obtain ⟨f94, p95⟩ := mf_48 hO0 hc2
                      refine ur_get rfl hc2 p95 ?_
                      refine ur_ldA rfl rfl ?_
                      obtain ⟨f96, p97⟩ := mf_49 hO0 hc2
                      refine ur_get rfl hc2 p97 ?_
                      refine ur_ldI rfl rfl ?_
                      refine ur_push rfl ?_
                      refine ur_if2 rfl (fun c98 => ?_) (fun c98 => ?_)
                      · have t99 := ne_to c98
                        exfalso
                        omega
                      · have t100 := ne_no c98
                        refine ur_push rfl ?_
                        refine ur_go rfl ?_
                        refine ur_ldI rfl rfl ?_
                        refine ur_ldI rfl rfl ?_
                        refine ur_inl rfl (rcv_of hc2) (Nat.le_of_ble_eq_true rfl) (Nat.le_of_ble_eq_true rfl) (sd_X12_newWord hO0 hX0 _ (by show 0 ≤ x14.toInt ∧ x14.toInt ≤ 7; omega) _ (by show 0 ≤ x7.toInt ∧ x7.toInt ≤ 8; omega) _ _ _ _ (by show -1 ≤ ((-1) : Int32).toInt ∧ ((-1) : Int32).toInt ≤ 19; omega) _ _ (by omega) (by omega) (by omega) (by omega) (fun w101 h105 hr102 hO105 hv105 hp103 hp104 => ?_))
                        have hu105 := hv105
                        obtain ⟨x106, rfl, t107⟩ := hr102
                        show uRun _ (uCall Mt _) _ 181 (_, [(.inl x106)], _, _, _)
                        obtain ⟨fs108, hc109⟩ := hO105.mod
                        obtain ⟨f110, p111, t112⟩ := mf_38 hO105 hc109
                        have t113 := fI_of hc109 p111
                        exact ur_ret rfl rfl (hQ _ _ ⟨_, rfl, Or.inr (Or.inr ⟨⟨⟨by omega, by omega, by omega, by omega, by omega⟩, by omega, fun q => by omega, fun q => by omega, fun q => by omega⟩, by omega, by omega, by omega⟩)⟩ hO105 hu105 (by omega) hp104)
                    · have t114 := ne_no c90
                      refine ur_push rfl ?_
                      exact ur_ret rfl rfl (hQ _ _ ⟨_, rfl, Or.inr (Or.inl ⟨⟨⟨by omega, by omega, by omega, by omega, by omega⟩, by omega, fun q => by omega, fun q => by omega, fun q => by omega⟩, by omega, by omega, by omega⟩)⟩ hO0 un.rf (by omega) hX0)
                  · have t115 := t87 c88
                    clear t86 t87
                    refine ur_push rfl ?_
                    exact ur_ret rfl rfl (hQ _ _ ⟨_, rfl, Or.inl ⟨fun q => by omega, by omega, by omega⟩⟩ hO0 un.rf (by omega) hX0)
              · have t116 := t51 c53
                clear t51 t52
                refine ur_ldI rfl rfl ?_
                refine ur_push rfl ?_
                refine ur_push rfl ?_
                refine ur_callv rfl rfl (Nat.le_of_ble_eq_true rfl) (Nat.le_of_ble_eq_true rfl) rfl (sp_in _ _ _ _ _) ?_
                refine ur_eqB rfl (fun c119 => ?_) (fun c119 => ?_)
                · have t120 := wi_noL c119 l_0 l_1
                  refine ur_push rfl ?_
                  exact ur_ret rfl rfl (hQ _ _ ⟨_, rfl, Or.inl ⟨fun q => by omega, by omega, by omega⟩⟩ hO0 un.rf (by omega) hX0)
                · have t121 := wi_toL c119 l_0 l_1
                  refine ur_ldI rfl rfl ?_
                  refine ur_push rfl ?_
                  refine ur_if2 rfl (fun c122 => ?_) (fun c122 => ?_)
                  · have t123 := ne_to c122
                    refine ur_ldA rfl rfl ?_
                    refine ur_get rfl hc2 p4 ?_
                    refine ur_push rfl ?_
                    refine ur_if2 rfl (fun c124 => ?_) (fun c124 => ?_)
                    · have t125 := ne_to c124
                      refine ur_ldA rfl rfl ?_
                      refine ur_ldI rfl rfl ?_
                      refine ur_ldI rfl rfl ?_
                      refine ur_ldA rfl rfl ?_
                      obtain ⟨f126, p127⟩ := mf_47 hO0 hc2
                      refine ur_get rfl hc2 p127 ?_
                      refine ur_ldA rfl rfl ?_
                      obtain ⟨f128, p129⟩ := mf_48 hO0 hc2
                      refine ur_get rfl hc2 p129 ?_
                      refine ur_ldA rfl rfl ?_
                      obtain ⟨f130, p131⟩ := mf_49 hO0 hc2
                      refine ur_get rfl hc2 p131 ?_
                      refine ur_ldI rfl rfl ?_
                      refine ur_push rfl ?_
                      refine ur_if2 rfl (fun c132 => ?_) (fun c132 => ?_)
                      · have t133 := ne_to c132
                        exfalso
                        omega
                      · have t134 := ne_no c132
                        refine ur_push rfl ?_
                        refine ur_go rfl ?_
                        refine ur_ldI rfl rfl ?_
                        refine ur_ldI rfl rfl ?_
                        refine ur_inl rfl (rcv_of hc2) (Nat.le_of_ble_eq_true rfl) (Nat.le_of_ble_eq_true rfl) (sd_X12_newWord hO0 hX0 _ (by show 0 ≤ x14.toInt ∧ x14.toInt ≤ 7; omega) _ (by show 0 ≤ x7.toInt ∧ x7.toInt ≤ 8; omega) _ _ _ _ (by show -1 ≤ ((-1) : Int32).toInt ∧ ((-1) : Int32).toInt ≤ 19; omega) _ _ (by omega) (by omega) (by omega) (by omega) (fun w135 h139 hr136 hO139 hv139 hp137 hp138 => ?_))
                        have hu139 := hv139
                        obtain ⟨x140, rfl, t141⟩ := hr136
                        show uRun _ (uCall Mt _) _ 181 (_, [(.inl x140)], _, _, _)
                        obtain ⟨fs142, hc143⟩ := hO139.mod
                        obtain ⟨f144, p145, t146⟩ := mf_38 hO139 hc143
                        have t147 := fI_of hc143 p145
                        exact ur_ret rfl rfl (hQ _ _ ⟨_, rfl, Or.inr (Or.inr ⟨⟨⟨by omega, by omega, by omega, by omega, by omega⟩, by omega, fun q => by omega, fun q => by omega, fun q => by omega⟩, by omega, by omega, by omega⟩)⟩ hO139 hu139 (by omega) hp138)
                    · have t148 := ne_no c124
                      refine ur_push rfl ?_
                      exact ur_ret rfl rfl (hQ _ _ ⟨_, rfl, Or.inr (Or.inl ⟨⟨⟨by omega, by omega, by omega, by omega, by omega⟩, by omega, fun q => by omega, fun q => by omega, fun q => by omega⟩, by omega, by omega, by omega⟩)⟩ hO0 un.rf (by omega) hX0)
                  · have t149 := ne_no c122
                    refine ur_ldA rfl rfl ?_
                    refine ur_ldI rfl rfl ?_
                    refine ur_inl rfl (rcv_of hc2) (Nat.le_of_ble_eq_true rfl) (Nat.le_of_ble_eq_true rfl) (sd_X12_isWord hO0 _ (fun w150 hr151 => ?_))
                    obtain ⟨b152, rfl, t153, t154⟩ := hr151
                    show uRun _ (uCall Mt _) _ 128 (_, [(.inl (bi b152))], _, _, _)
                    refine ur_neB rfl (fun c155 => ?_) (fun c155 => ?_)
                    · have t156 := t153 c155
                      clear t153 t154
                      refine ur_ldA rfl rfl ?_
                      refine ur_get rfl hc2 p4 ?_
                      refine ur_push rfl ?_
                      refine ur_if2 rfl (fun c157 => ?_) (fun c157 => ?_)
                      · have t158 := ne_to c157
                        refine ur_ldA rfl rfl ?_
                        refine ur_ldI rfl rfl ?_
                        refine ur_ldI rfl rfl ?_
                        refine ur_ldA rfl rfl ?_
                        obtain ⟨f159, p160⟩ := mf_47 hO0 hc2
                        refine ur_get rfl hc2 p160 ?_
                        refine ur_ldA rfl rfl ?_
                        obtain ⟨f161, p162⟩ := mf_48 hO0 hc2
                        refine ur_get rfl hc2 p162 ?_
                        refine ur_ldA rfl rfl ?_
                        obtain ⟨f163, p164⟩ := mf_49 hO0 hc2
                        refine ur_get rfl hc2 p164 ?_
                        refine ur_ldI rfl rfl ?_
                        refine ur_push rfl ?_
                        refine ur_if2 rfl (fun c165 => ?_) (fun c165 => ?_)
                        · have t166 := ne_to c165
                          exfalso
                          omega
                        · have t167 := ne_no c165
                          refine ur_push rfl ?_
                          refine ur_go rfl ?_
                          refine ur_ldI rfl rfl ?_
                          refine ur_ldI rfl rfl ?_
                          refine ur_inl rfl (rcv_of hc2) (Nat.le_of_ble_eq_true rfl) (Nat.le_of_ble_eq_true rfl) (sd_X12_newWord hO0 hX0 _ (by show 0 ≤ x14.toInt ∧ x14.toInt ≤ 7; omega) _ (by show 0 ≤ x7.toInt ∧ x7.toInt ≤ 8; omega) _ _ _ _ (by show -1 ≤ ((-1) : Int32).toInt ∧ ((-1) : Int32).toInt ≤ 19; omega) _ _ (by omega) (by omega) (by omega) (by omega) (fun w168 h172 hr169 hO172 hv172 hp170 hp171 => ?_))
                          have hu172 := hv172
                          obtain ⟨x173, rfl, t174⟩ := hr169
                          show uRun _ (uCall Mt _) _ 181 (_, [(.inl x173)], _, _, _)
                          obtain ⟨fs175, hc176⟩ := hO172.mod
                          obtain ⟨f177, p178, t179⟩ := mf_38 hO172 hc176
                          have t180 := fI_of hc176 p178
                          exact ur_ret rfl rfl (hQ _ _ ⟨_, rfl, Or.inr (Or.inr ⟨⟨⟨by omega, by omega, by omega, by omega, by omega⟩, by omega, fun q => by omega, fun q => by omega, fun q => by omega⟩, by omega, by omega, by omega⟩)⟩ hO172 hu172 (by omega) hp171)
                      · have t181 := ne_no c157
                        refine ur_push rfl ?_
                        exact ur_ret rfl rfl (hQ _ _ ⟨_, rfl, Or.inr (Or.inl ⟨⟨⟨by omega, by omega, by omega, by omega, by omega⟩, by omega, fun q => by omega, fun q => by omega, fun q => by omega⟩, by omega, by omega, by omega⟩)⟩ hO0 un.rf (by omega) hX0)
                    · have t182 := t154 c155
                      clear t153 t154
                      refine ur_push rfl ?_
                      exact ur_ret rfl rfl (hQ _ _ ⟨_, rfl, Or.inl ⟨fun q => by omega, by omega, by omega⟩⟩ hO0 un.rf (by omega) hX0)
            · have t183 := t44 c46
              clear t44 t45
              refine ur_ldI rfl rfl ?_
              refine ur_push rfl ?_
              refine ur_push rfl ?_
              refine ur_callv rfl rfl (Nat.le_of_ble_eq_true rfl) (Nat.le_of_ble_eq_true rfl) rfl (sp_in _ _ _ _ _) ?_
              refine ur_eqB rfl (fun c186 => ?_) (fun c186 => ?_)
              · have t187 := wi_noL c186 l_0 l_23
                refine ur_push rfl ?_
                exact ur_ret rfl rfl (hQ _ _ ⟨_, rfl, Or.inl ⟨fun q => by omega, by omega, by omega⟩⟩ hO0 un.rf (by omega) hX0)
              · have t188 := wi_toL c186 l_0 l_23
                refine ur_ldI rfl rfl ?_
                refine ur_inl rfl rfl (Nat.le_of_ble_eq_true rfl) (Nat.le_of_ble_eq_true rfl) (sd_X12_isSided hO0 _ (fun w189 hr190 => ?_))
                obtain ⟨b191, rfl, t192, t193⟩ := hr190
                show uRun _ (uCall Mt _) _ 105 (_, [(.inl (bi b191))], _, _, _)
                refine ur_eqB rfl (fun c194 => ?_) (fun c194 => ?_)
                · have t195 := t193 c194
                  clear t192 t193
                  refine ur_ldI rfl rfl ?_
                  refine ur_push rfl ?_
                  refine ur_if2 rfl (fun c196 => ?_) (fun c196 => ?_)
                  · have t197 := ne_to c196
                    refine ur_ldA rfl rfl ?_
                    refine ur_get rfl hc2 p4 ?_
                    refine ur_push rfl ?_
                    refine ur_if2 rfl (fun c198 => ?_) (fun c198 => ?_)
                    · have t199 := ne_to c198
                      refine ur_ldA rfl rfl ?_
                      refine ur_ldI rfl rfl ?_
                      refine ur_ldI rfl rfl ?_
                      refine ur_ldA rfl rfl ?_
                      obtain ⟨f200, p201⟩ := mf_47 hO0 hc2
                      refine ur_get rfl hc2 p201 ?_
                      refine ur_ldA rfl rfl ?_
                      obtain ⟨f202, p203⟩ := mf_48 hO0 hc2
                      refine ur_get rfl hc2 p203 ?_
                      refine ur_ldA rfl rfl ?_
                      obtain ⟨f204, p205⟩ := mf_49 hO0 hc2
                      refine ur_get rfl hc2 p205 ?_
                      refine ur_ldI rfl rfl ?_
                      refine ur_push rfl ?_
                      refine ur_if2 rfl (fun c206 => ?_) (fun c206 => ?_)
                      · have t207 := ne_to c206
                        exfalso
                        omega
                      · have t208 := ne_no c206
                        refine ur_push rfl ?_
                        refine ur_go rfl ?_
                        refine ur_ldI rfl rfl ?_
                        refine ur_ldI rfl rfl ?_
                        refine ur_inl rfl (rcv_of hc2) (Nat.le_of_ble_eq_true rfl) (Nat.le_of_ble_eq_true rfl) (sd_X12_newWord hO0 hX0 _ (by show 0 ≤ x14.toInt ∧ x14.toInt ≤ 7; omega) _ (by show 0 ≤ x7.toInt ∧ x7.toInt ≤ 8; omega) _ _ _ _ (by show -1 ≤ ((-1) : Int32).toInt ∧ ((-1) : Int32).toInt ≤ 19; omega) _ _ (by omega) (by omega) (by omega) (by omega) (fun w209 h213 hr210 hO213 hv213 hp211 hp212 => ?_))
                        have hu213 := hv213
                        obtain ⟨x214, rfl, t215⟩ := hr210
                        show uRun _ (uCall Mt _) _ 181 (_, [(.inl x214)], _, _, _)
                        obtain ⟨fs216, hc217⟩ := hO213.mod
                        obtain ⟨f218, p219, t220⟩ := mf_38 hO213 hc217
                        have t221 := fI_of hc217 p219
                        exact ur_ret rfl rfl (hQ _ _ ⟨_, rfl, Or.inr (Or.inr ⟨⟨⟨by omega, by omega, by omega, by omega, by omega⟩, by omega, fun q => by omega, fun q => by omega, fun q => by omega⟩, by omega, by omega, by omega⟩)⟩ hO213 hu213 (by omega) hp212)
                    · have t222 := ne_no c198
                      refine ur_push rfl ?_
                      exact ur_ret rfl rfl (hQ _ _ ⟨_, rfl, Or.inr (Or.inl ⟨⟨⟨by omega, by omega, by omega, by omega, by omega⟩, by omega, fun q => by omega, fun q => by omega, fun q => by omega⟩, by omega, by omega, by omega⟩)⟩ hO0 un.rf (by omega) hX0)
                  · have t223 := ne_no c196
                    refine ur_ldA rfl rfl ?_
                    refine ur_ldI rfl rfl ?_
                    refine ur_inl rfl (rcv_of hc2) (Nat.le_of_ble_eq_true rfl) (Nat.le_of_ble_eq_true rfl) (sd_X12_isWord hO0 _ (fun w224 hr225 => ?_))
                    obtain ⟨b226, rfl, t227, t228⟩ := hr225
                    show uRun _ (uCall Mt _) _ 128 (_, [(.inl (bi b226))], _, _, _)
                    refine ur_neB rfl (fun c229 => ?_) (fun c229 => ?_)
                    · have t230 := t227 c229
                      clear t227 t228
                      refine ur_ldA rfl rfl ?_
                      refine ur_get rfl hc2 p4 ?_
                      refine ur_push rfl ?_
                      refine ur_if2 rfl (fun c231 => ?_) (fun c231 => ?_)
                      · have t232 := ne_to c231
                        refine ur_ldA rfl rfl ?_
                        refine ur_ldI rfl rfl ?_
                        refine ur_ldI rfl rfl ?_
                        refine ur_ldA rfl rfl ?_
                        obtain ⟨f233, p234⟩ := mf_47 hO0 hc2
                        refine ur_get rfl hc2 p234 ?_
                        refine ur_ldA rfl rfl ?_
                        obtain ⟨f235, p236⟩ := mf_48 hO0 hc2
                        refine ur_get rfl hc2 p236 ?_
                        refine ur_ldA rfl rfl ?_
                        obtain ⟨f237, p238⟩ := mf_49 hO0 hc2
                        refine ur_get rfl hc2 p238 ?_
                        refine ur_ldI rfl rfl ?_
                        refine ur_push rfl ?_
                        refine ur_if2 rfl (fun c239 => ?_) (fun c239 => ?_)
                        · have t240 := ne_to c239
                          exfalso
                          omega
                        · have t241 := ne_no c239
                          refine ur_push rfl ?_
                          refine ur_go rfl ?_
                          refine ur_ldI rfl rfl ?_
                          refine ur_ldI rfl rfl ?_
                          refine ur_inl rfl (rcv_of hc2) (Nat.le_of_ble_eq_true rfl) (Nat.le_of_ble_eq_true rfl) (sd_X12_newWord hO0 hX0 _ (by show 0 ≤ x14.toInt ∧ x14.toInt ≤ 7; omega) _ (by show 0 ≤ x7.toInt ∧ x7.toInt ≤ 8; omega) _ _ _ _ (by show -1 ≤ ((-1) : Int32).toInt ∧ ((-1) : Int32).toInt ≤ 19; omega) _ _ (by omega) (by omega) (by omega) (by omega) (fun w242 h246 hr243 hO246 hv246 hp244 hp245 => ?_))
                          have hu246 := hv246
                          obtain ⟨x247, rfl, t248⟩ := hr243
                          show uRun _ (uCall Mt _) _ 181 (_, [(.inl x247)], _, _, _)
                          obtain ⟨fs249, hc250⟩ := hO246.mod
                          obtain ⟨f251, p252, t253⟩ := mf_38 hO246 hc250
                          have t254 := fI_of hc250 p252
                          exact ur_ret rfl rfl (hQ _ _ ⟨_, rfl, Or.inr (Or.inr ⟨⟨⟨by omega, by omega, by omega, by omega, by omega⟩, by omega, fun q => by omega, fun q => by omega, fun q => by omega⟩, by omega, by omega, by omega⟩)⟩ hO246 hu246 (by omega) hp245)
                      · have t255 := ne_no c231
                        refine ur_push rfl ?_
                        exact ur_ret rfl rfl (hQ _ _ ⟨_, rfl, Or.inr (Or.inl ⟨⟨⟨by omega, by omega, by omega, by omega, by omega⟩, by omega, fun q => by omega, fun q => by omega, fun q => by omega⟩, by omega, by omega, by omega⟩)⟩ hO0 un.rf (by omega) hX0)
                    · have t256 := t228 c229
                      clear t227 t228
                      refine ur_push rfl ?_
                      exact ur_ret rfl rfl (hQ _ _ ⟨_, rfl, Or.inl ⟨fun q => by omega, by omega, by omega⟩⟩ hO0 un.rf (by omega) hX0)
                · have t257 := t192 c194
                  clear t192 t193
                  refine ur_ldI rfl rfl ?_
                  refine ur_push rfl ?_
                  refine ur_push rfl ?_
                  refine ur_callv rfl rfl (Nat.le_of_ble_eq_true rfl) (Nat.le_of_ble_eq_true rfl) rfl (sp_in _ _ _ _ _) ?_
                  refine ur_eqB rfl (fun c260 => ?_) (fun c260 => ?_)
                  · have t261 := wi_noL c260 l_0 l_1
                    refine ur_push rfl ?_
                    exact ur_ret rfl rfl (hQ _ _ ⟨_, rfl, Or.inl ⟨fun q => by omega, by omega, by omega⟩⟩ hO0 un.rf (by omega) hX0)
                  · have t262 := wi_toL c260 l_0 l_1
                    refine ur_ldI rfl rfl ?_
                    refine ur_push rfl ?_
                    refine ur_if2 rfl (fun c263 => ?_) (fun c263 => ?_)
                    · have t264 := ne_to c263
                      refine ur_ldA rfl rfl ?_
                      refine ur_get rfl hc2 p4 ?_
                      refine ur_push rfl ?_
                      refine ur_if2 rfl (fun c265 => ?_) (fun c265 => ?_)
                      · have t266 := ne_to c265
                        refine ur_ldA rfl rfl ?_
                        refine ur_ldI rfl rfl ?_
                        refine ur_ldI rfl rfl ?_
                        refine ur_ldA rfl rfl ?_
                        obtain ⟨f267, p268⟩ := mf_47 hO0 hc2
                        refine ur_get rfl hc2 p268 ?_
                        refine ur_ldA rfl rfl ?_
                        obtain ⟨f269, p270⟩ := mf_48 hO0 hc2
                        refine ur_get rfl hc2 p270 ?_
                        refine ur_ldA rfl rfl ?_
                        obtain ⟨f271, p272⟩ := mf_49 hO0 hc2
                        refine ur_get rfl hc2 p272 ?_
                        refine ur_ldI rfl rfl ?_
                        refine ur_push rfl ?_
                        refine ur_if2 rfl (fun c273 => ?_) (fun c273 => ?_)
                        · have t274 := ne_to c273
                          exfalso
                          omega
                        · have t275 := ne_no c273
                          refine ur_push rfl ?_
                          refine ur_go rfl ?_
                          refine ur_ldI rfl rfl ?_
                          refine ur_ldI rfl rfl ?_
                          refine ur_inl rfl (rcv_of hc2) (Nat.le_of_ble_eq_true rfl) (Nat.le_of_ble_eq_true rfl) (sd_X12_newWord hO0 hX0 _ (by show 0 ≤ x14.toInt ∧ x14.toInt ≤ 7; omega) _ (by show 0 ≤ x7.toInt ∧ x7.toInt ≤ 8; omega) _ _ _ _ (by show -1 ≤ ((-1) : Int32).toInt ∧ ((-1) : Int32).toInt ≤ 19; omega) _ _ (by omega) (by omega) (by omega) (by omega) (fun w276 h280 hr277 hO280 hv280 hp278 hp279 => ?_))
                          have hu280 := hv280
                          obtain ⟨x281, rfl, t282⟩ := hr277
                          show uRun _ (uCall Mt _) _ 181 (_, [(.inl x281)], _, _, _)
                          obtain ⟨fs283, hc284⟩ := hO280.mod
                          obtain ⟨f285, p286, t287⟩ := mf_38 hO280 hc284
                          have t288 := fI_of hc284 p286
                          exact ur_ret rfl rfl (hQ _ _ ⟨_, rfl, Or.inr (Or.inr ⟨⟨⟨by omega, by omega, by omega, by omega, by omega⟩, by omega, fun q => by omega, fun q => by omega, fun q => by omega⟩, by omega, by omega, by omega⟩)⟩ hO280 hu280 (by omega) hp279)
                      · have t289 := ne_no c265
                        refine ur_push rfl ?_
                        exact ur_ret rfl rfl (hQ _ _ ⟨_, rfl, Or.inr (Or.inl ⟨⟨⟨by omega, by omega, by omega, by omega, by omega⟩, by omega, fun q => by omega, fun q => by omega, fun q => by omega⟩, by omega, by omega, by omega⟩)⟩ hO0 un.rf (by omega) hX0)
                    · have t290 := ne_no c263
                      refine ur_ldA rfl rfl ?_
                      refine ur_ldI rfl rfl ?_
                      refine ur_inl rfl (rcv_of hc2) (Nat.le_of_ble_eq_true rfl) (Nat.le_of_ble_eq_true rfl) (sd_X12_isWord hO0 _ (fun w291 hr292 => ?_))
                      obtain ⟨b293, rfl, t294, t295⟩ := hr292
                      show uRun _ (uCall Mt _) _ 128 (_, [(.inl (bi b293))], _, _, _)
                      refine ur_neB rfl (fun c296 => ?_) (fun c296 => ?_)
                      · have t297 := t294 c296
                        clear t294 t295
                        refine ur_ldA rfl rfl ?_
                        refine ur_get rfl hc2 p4 ?_
                        refine ur_push rfl ?_
                        refine ur_if2 rfl (fun c298 => ?_) (fun c298 => ?_)
                        · have t299 := ne_to c298
                          refine ur_ldA rfl rfl ?_
                          refine ur_ldI rfl rfl ?_
                          refine ur_ldI rfl rfl ?_
                          refine ur_ldA rfl rfl ?_
                          obtain ⟨f300, p301⟩ := mf_47 hO0 hc2
                          refine ur_get rfl hc2 p301 ?_
                          refine ur_ldA rfl rfl ?_
                          obtain ⟨f302, p303⟩ := mf_48 hO0 hc2
                          refine ur_get rfl hc2 p303 ?_
                          refine ur_ldA rfl rfl ?_
                          obtain ⟨f304, p305⟩ := mf_49 hO0 hc2
                          refine ur_get rfl hc2 p305 ?_
                          refine ur_ldI rfl rfl ?_
                          refine ur_push rfl ?_
                          refine ur_if2 rfl (fun c306 => ?_) (fun c306 => ?_)
                          · have t307 := ne_to c306
                            exfalso
                            omega
                          · have t308 := ne_no c306
                            refine ur_push rfl ?_
                            refine ur_go rfl ?_
                            refine ur_ldI rfl rfl ?_
                            refine ur_ldI rfl rfl ?_
                            refine ur_inl rfl (rcv_of hc2) (Nat.le_of_ble_eq_true rfl) (Nat.le_of_ble_eq_true rfl) (sd_X12_newWord hO0 hX0 _ (by show 0 ≤ x14.toInt ∧ x14.toInt ≤ 7; omega) _ (by show 0 ≤ x7.toInt ∧ x7.toInt ≤ 8; omega) _ _ _ _ (by show -1 ≤ ((-1) : Int32).toInt ∧ ((-1) : Int32).toInt ≤ 19; omega) _ _ (by omega) (by omega) (by omega) (by omega) (fun w309 h313 hr310 hO313 hv313 hp311 hp312 => ?_))
                            have hu313 := hv313
                            obtain ⟨x314, rfl, t315⟩ := hr310
                            show uRun _ (uCall Mt _) _ 181 (_, [(.inl x314)], _, _, _)
                            obtain ⟨fs316, hc317⟩ := hO313.mod
                            obtain ⟨f318, p319, t320⟩ := mf_38 hO313 hc317
                            have t321 := fI_of hc317 p319
                            exact ur_ret rfl rfl (hQ _ _ ⟨_, rfl, Or.inr (Or.inr ⟨⟨⟨by omega, by omega, by omega, by omega, by omega⟩, by omega, fun q => by omega, fun q => by omega, fun q => by omega⟩, by omega, by omega, by omega⟩)⟩ hO313 hu313 (by omega) hp312)
                        · have t322 := ne_no c298
                          refine ur_push rfl ?_
                          exact ur_ret rfl rfl (hQ _ _ ⟨_, rfl, Or.inr (Or.inl ⟨⟨⟨by omega, by omega, by omega, by omega, by omega⟩, by omega, fun q => by omega, fun q => by omega, fun q => by omega⟩, by omega, by omega, by omega⟩)⟩ hO0 un.rf (by omega) hX0)
                      · have t323 := t295 c296
                        clear t294 t295
                        refine ur_push rfl ?_
                        exact ur_ret rfl rfl (hQ _ _ ⟨_, rfl, Or.inl ⟨fun q => by omega, by omega, by omega⟩⟩ hO0 un.rf (by omega) hX0)
          · have t324 := wi_noL c39 l_0 l_400
            refine ur_push rfl ?_
            exact ur_ret rfl rfl (hQ _ _ ⟨_, rfl, Or.inl ⟨fun q => by omega, by omega, by omega⟩⟩ hO0 un.rf (by omega) hX0)
        · have t325 := eq_no c35
          refine ur_ldI rfl rfl ?_
          refine ur_push rfl ?_
          refine ur_if2 rfl (fun c326 => ?_) (fun c326 => ?_)
          · have t327 := le_to c326
            refine ur_push rfl ?_
            exact ur_ret rfl rfl (hQ _ _ ⟨_, rfl, Or.inl ⟨fun q => by omega, by omega, by omega⟩⟩ hO0 un.rf (by omega) hX0)
          · have t328 := le_no c326
            refine ur_ldA rfl rfl ?_
            refine ur_get rfl hc2 (mf_32 hO0 hc2) ?_
            refine ur_ldI rfl rfl ?_
            obtain ⟨xs330, hc329, hn331, he332⟩ := hO0.int (hO0.fix 91 (by decide) rfl)
            refine ur_aldV rfl hc329 hn331 (by omega) (fun x333 hx334 => ?_)
            have t335 := gI_of (j := x18) hc329 hx334
            refine ur_if1 rfl (fun c336 => ?_) (fun c336 => ?_)
            · have t337 := eq_to c336
              refine ur_push rfl ?_
              exact ur_ret rfl rfl (hQ _ _ ⟨_, rfl, Or.inl ⟨fun q => by omega, by omega, by omega⟩⟩ hO0 un.rf (by omega) hX0)
            · have t338 := eq_no c336
              refine ur_ldI rfl rfl ?_
              refine ur_push rfl ?_
              refine ur_push rfl ?_
              refine ur_callv rfl rfl (Nat.le_of_ble_eq_true rfl) (Nat.le_of_ble_eq_true rfl) rfl (sp_in _ _ _ _ _) ?_
              refine ur_neB rfl (fun c341 => ?_) (fun c341 => ?_)
              · have t342 := wi_toL c341 l_0 l_400
                refine ur_ldI rfl rfl ?_
                refine ur_inl rfl rfl (Nat.le_of_ble_eq_true rfl) (Nat.le_of_ble_eq_true rfl) (sd_X12_isLodged hO0 _ (fun w343 hr344 => ?_))
                obtain ⟨b345, rfl, t346, t347⟩ := hr344
                show uRun _ (uCall Mt _) _ 87 (_, [(.inl (bi b345))], _, _, _)
                refine ur_eqB rfl (fun c348 => ?_) (fun c348 => ?_)
                · have t349 := t347 c348
                  clear t346 t347
                  refine ur_ldI rfl rfl ?_
                  refine ur_inl rfl rfl (Nat.le_of_ble_eq_true rfl) (Nat.le_of_ble_eq_true rfl) (sd_X12_isSided hO0 _ (fun w350 hr351 => ?_))
                  obtain ⟨b352, rfl, t353, t354⟩ := hr351
                  show uRun _ (uCall Mt _) _ 105 (_, [(.inl (bi b352))], _, _, _)
                  refine ur_eqB rfl (fun c355 => ?_) (fun c355 => ?_)
                  · have t356 := t354 c355
                    clear t353 t354
                    refine ur_ldI rfl rfl ?_
                    refine ur_push rfl ?_
                    refine ur_if2 rfl (fun c357 => ?_) (fun c357 => ?_)
                    · have t358 := ne_to c357
                      refine ur_ldA rfl rfl ?_
                      refine ur_get rfl hc2 p4 ?_
                      refine ur_push rfl ?_
                      refine ur_if2 rfl (fun c359 => ?_) (fun c359 => ?_)
                      · have t360 := ne_to c359
                        refine ur_ldA rfl rfl ?_
                        refine ur_ldI rfl rfl ?_
                        refine ur_ldI rfl rfl ?_
                        refine ur_ldA rfl rfl ?_
                        obtain ⟨f361, p362⟩ := mf_47 hO0 hc2
                        refine ur_get rfl hc2 p362 ?_
                        refine ur_ldA rfl rfl ?_
                        obtain ⟨f363, p364⟩ := mf_48 hO0 hc2
                        refine ur_get rfl hc2 p364 ?_
                        refine ur_ldA rfl rfl ?_
                        obtain ⟨f365, p366⟩ := mf_49 hO0 hc2
                        refine ur_get rfl hc2 p366 ?_
                        refine ur_ldI rfl rfl ?_
                        refine ur_push rfl ?_
                        refine ur_if2 rfl (fun c367 => ?_) (fun c367 => ?_)
                        · have t368 := ne_to c367
                          refine ur_ldI rfl rfl ?_
                          refine ur_ldI rfl rfl ?_
                          refine ur_ldI rfl rfl ?_
                          refine ur_inl rfl (rcv_of hc2) (Nat.le_of_ble_eq_true rfl) (Nat.le_of_ble_eq_true rfl) (sd_X12_newWord hO0 hX0 _ (by show 0 ≤ x14.toInt ∧ x14.toInt ≤ 7; omega) _ (by show 0 ≤ x7.toInt ∧ x7.toInt ≤ 8; omega) _ _ _ _ (by show -1 ≤ x18.toInt ∧ x18.toInt ≤ 19; omega) _ _ (by omega) (by omega) (by omega) (by omega) (fun w369 h373 hr370 hO373 hv373 hp371 hp372 => ?_))
                          have hu373 := hv373
                          obtain ⟨x374, rfl, t375⟩ := hr370
                          show uRun _ (uCall Mt _) _ 181 (_, [(.inl x374)], _, _, _)
                          obtain ⟨fs376, hc377⟩ := hO373.mod
                          obtain ⟨f378, p379, t380⟩ := mf_38 hO373 hc377
                          have t381 := fI_of hc377 p379
                          exact ur_ret rfl rfl (hQ _ _ ⟨_, rfl, Or.inr (Or.inr ⟨⟨⟨by omega, by omega, by omega, by omega, by omega⟩, by omega, fun q => by omega, fun q => by omega, fun q => by omega⟩, by omega, by omega, by omega⟩)⟩ hO373 hu373 (by omega) hp372)
                        · have t382 := ne_no c367
                          exfalso
                          omega
                      · have t383 := ne_no c359
                        refine ur_push rfl ?_
                        exact ur_ret rfl rfl (hQ _ _ ⟨_, rfl, Or.inr (Or.inl ⟨⟨⟨by omega, by omega, by omega, by omega, by omega⟩, by omega, fun q => by omega, fun q => by omega, fun q => by omega⟩, by omega, by omega, by omega⟩)⟩ hO0 un.rf (by omega) hX0)
                    · have t384 := ne_no c357
                      refine ur_ldA rfl rfl ?_
                      refine ur_ldI rfl rfl ?_
                      refine ur_inl rfl (rcv_of hc2) (Nat.le_of_ble_eq_true rfl) (Nat.le_of_ble_eq_true rfl) (sd_X12_isWord hO0 _ (fun w385 hr386 => ?_))
                      obtain ⟨b387, rfl, t388, t389⟩ := hr386
                      show uRun _ (uCall Mt _) _ 128 (_, [(.inl (bi b387))], _, _, _)
                      refine ur_neB rfl (fun c390 => ?_) (fun c390 => ?_)
                      · have t391 := t388 c390
                        clear t388 t389
                        refine ur_ldA rfl rfl ?_
                        refine ur_get rfl hc2 p4 ?_
                        refine ur_push rfl ?_
                        refine ur_if2 rfl (fun c392 => ?_) (fun c392 => ?_)
                        · have t393 := ne_to c392
                          refine ur_ldA rfl rfl ?_
                          refine ur_ldI rfl rfl ?_
                          refine ur_ldI rfl rfl ?_
                          refine ur_ldA rfl rfl ?_
                          obtain ⟨f394, p395⟩ := mf_47 hO0 hc2
                          refine ur_get rfl hc2 p395 ?_
                          refine ur_ldA rfl rfl ?_
                          obtain ⟨f396, p397⟩ := mf_48 hO0 hc2
                          refine ur_get rfl hc2 p397 ?_
                          refine ur_ldA rfl rfl ?_
                          obtain ⟨f398, p399⟩ := mf_49 hO0 hc2
                          refine ur_get rfl hc2 p399 ?_
                          refine ur_ldI rfl rfl ?_
                          refine ur_push rfl ?_
                          refine ur_if2 rfl (fun c400 => ?_) (fun c400 => ?_)
                          · have t401 := ne_to c400
                            refine ur_ldI rfl rfl ?_
                            refine ur_ldI rfl rfl ?_
                            refine ur_ldI rfl rfl ?_
                            refine ur_inl rfl (rcv_of hc2) (Nat.le_of_ble_eq_true rfl) (Nat.le_of_ble_eq_true rfl) (sd_X12_newWord hO0 hX0 _ (by show 0 ≤ x14.toInt ∧ x14.toInt ≤ 7; omega) _ (by show 0 ≤ x7.toInt ∧ x7.toInt ≤ 8; omega) _ _ _ _ (by show -1 ≤ x18.toInt ∧ x18.toInt ≤ 19; omega) _ _ (by omega) (by omega) (by omega) (by omega) (fun w402 h406 hr403 hO406 hv406 hp404 hp405 => ?_))
                            have hu406 := hv406
                            obtain ⟨x407, rfl, t408⟩ := hr403
                            show uRun _ (uCall Mt _) _ 181 (_, [(.inl x407)], _, _, _)
                            obtain ⟨fs409, hc410⟩ := hO406.mod
                            obtain ⟨f411, p412, t413⟩ := mf_38 hO406 hc410
                            have t414 := fI_of hc410 p412
                            exact ur_ret rfl rfl (hQ _ _ ⟨_, rfl, Or.inr (Or.inr ⟨⟨⟨by omega, by omega, by omega, by omega, by omega⟩, by omega, fun q => by omega, fun q => by omega, fun q => by omega⟩, by omega, by omega, by omega⟩)⟩ hO406 hu406 (by omega) hp405)
                          · have t415 := ne_no c400
                            exfalso
                            omega
                        · have t416 := ne_no c392
                          refine ur_push rfl ?_
                          exact ur_ret rfl rfl (hQ _ _ ⟨_, rfl, Or.inr (Or.inl ⟨⟨⟨by omega, by omega, by omega, by omega, by omega⟩, by omega, fun q => by omega, fun q => by omega, fun q => by omega⟩, by omega, by omega, by omega⟩)⟩ hO0 un.rf (by omega) hX0)
                      · have t417 := t389 c390
                        clear t388 t389
                        refine ur_push rfl ?_
                        exact ur_ret rfl rfl (hQ _ _ ⟨_, rfl, Or.inl ⟨fun q => by omega, by omega, by omega⟩⟩ hO0 un.rf (by omega) hX0)
                  · have t418 := t353 c355
                    clear t353 t354
                    refine ur_ldI rfl rfl ?_
                    refine ur_push rfl ?_
                    refine ur_push rfl ?_
                    refine ur_callv rfl rfl (Nat.le_of_ble_eq_true rfl) (Nat.le_of_ble_eq_true rfl) rfl (sp_in _ _ _ _ _) ?_
                    refine ur_eqB rfl (fun c421 => ?_) (fun c421 => ?_)
                    · have t422 := wi_noL c421 l_0 l_1
                      refine ur_push rfl ?_
                      exact ur_ret rfl rfl (hQ _ _ ⟨_, rfl, Or.inl ⟨fun q => by omega, by omega, by omega⟩⟩ hO0 un.rf (by omega) hX0)
                    · have t423 := wi_toL c421 l_0 l_1
                      refine ur_ldI rfl rfl ?_
                      refine ur_push rfl ?_
                      refine ur_if2 rfl (fun c424 => ?_) (fun c424 => ?_)
                      · have t425 := ne_to c424
                        refine ur_ldA rfl rfl ?_
                        refine ur_get rfl hc2 p4 ?_
                        refine ur_push rfl ?_
                        refine ur_if2 rfl (fun c426 => ?_) (fun c426 => ?_)
                        · have t427 := ne_to c426
                          refine ur_ldA rfl rfl ?_
                          refine ur_ldI rfl rfl ?_
                          refine ur_ldI rfl rfl ?_
                          refine ur_ldA rfl rfl ?_
                          obtain ⟨f428, p429⟩ := mf_47 hO0 hc2
                          refine ur_get rfl hc2 p429 ?_
                          refine ur_ldA rfl rfl ?_
                          obtain ⟨f430, p431⟩ := mf_48 hO0 hc2
                          refine ur_get rfl hc2 p431 ?_
                          refine ur_ldA rfl rfl ?_
                          obtain ⟨f432, p433⟩ := mf_49 hO0 hc2
                          refine ur_get rfl hc2 p433 ?_
                          refine ur_ldI rfl rfl ?_
                          refine ur_push rfl ?_
                          refine ur_if2 rfl (fun c434 => ?_) (fun c434 => ?_)
                          · have t435 := ne_to c434
                            refine ur_ldI rfl rfl ?_
                            refine ur_ldI rfl rfl ?_
                            refine ur_ldI rfl rfl ?_
                            refine ur_inl rfl (rcv_of hc2) (Nat.le_of_ble_eq_true rfl) (Nat.le_of_ble_eq_true rfl) (sd_X12_newWord hO0 hX0 _ (by show 0 ≤ x14.toInt ∧ x14.toInt ≤ 7; omega) _ (by show 0 ≤ x7.toInt ∧ x7.toInt ≤ 8; omega) _ _ _ _ (by show -1 ≤ x18.toInt ∧ x18.toInt ≤ 19; omega) _ _ (by omega) (by omega) (by omega) (by omega) (fun w436 h440 hr437 hO440 hv440 hp438 hp439 => ?_))
                            have hu440 := hv440
                            obtain ⟨x441, rfl, t442⟩ := hr437
                            show uRun _ (uCall Mt _) _ 181 (_, [(.inl x441)], _, _, _)
                            obtain ⟨fs443, hc444⟩ := hO440.mod
                            obtain ⟨f445, p446, t447⟩ := mf_38 hO440 hc444
                            have t448 := fI_of hc444 p446
                            exact ur_ret rfl rfl (hQ _ _ ⟨_, rfl, Or.inr (Or.inr ⟨⟨⟨by omega, by omega, by omega, by omega, by omega⟩, by omega, fun q => by omega, fun q => by omega, fun q => by omega⟩, by omega, by omega, by omega⟩)⟩ hO440 hu440 (by omega) hp439)
                          · have t449 := ne_no c434
                            exfalso
                            omega
                        · have t450 := ne_no c426
                          refine ur_push rfl ?_
                          exact ur_ret rfl rfl (hQ _ _ ⟨_, rfl, Or.inr (Or.inl ⟨⟨⟨by omega, by omega, by omega, by omega, by omega⟩, by omega, fun q => by omega, fun q => by omega, fun q => by omega⟩, by omega, by omega, by omega⟩)⟩ hO0 un.rf (by omega) hX0)
                      · have t451 := ne_no c424
                        refine ur_ldA rfl rfl ?_
                        refine ur_ldI rfl rfl ?_
                        refine ur_inl rfl (rcv_of hc2) (Nat.le_of_ble_eq_true rfl) (Nat.le_of_ble_eq_true rfl) (sd_X12_isWord hO0 _ (fun w452 hr453 => ?_))
                        obtain ⟨b454, rfl, t455, t456⟩ := hr453
                        show uRun _ (uCall Mt _) _ 128 (_, [(.inl (bi b454))], _, _, _)
                        refine ur_neB rfl (fun c457 => ?_) (fun c457 => ?_)
                        · have t458 := t455 c457
                          clear t455 t456
                          refine ur_ldA rfl rfl ?_
                          refine ur_get rfl hc2 p4 ?_
                          refine ur_push rfl ?_
                          refine ur_if2 rfl (fun c459 => ?_) (fun c459 => ?_)
                          · have t460 := ne_to c459
                            refine ur_ldA rfl rfl ?_
                            refine ur_ldI rfl rfl ?_
                            refine ur_ldI rfl rfl ?_
                            refine ur_ldA rfl rfl ?_
                            obtain ⟨f461, p462⟩ := mf_47 hO0 hc2
                            refine ur_get rfl hc2 p462 ?_
                            refine ur_ldA rfl rfl ?_
                            obtain ⟨f463, p464⟩ := mf_48 hO0 hc2
                            refine ur_get rfl hc2 p464 ?_
                            refine ur_ldA rfl rfl ?_
                            obtain ⟨f465, p466⟩ := mf_49 hO0 hc2
                            refine ur_get rfl hc2 p466 ?_
                            refine ur_ldI rfl rfl ?_
                            refine ur_push rfl ?_
                            refine ur_if2 rfl (fun c467 => ?_) (fun c467 => ?_)
                            · have t468 := ne_to c467
                              refine ur_ldI rfl rfl ?_
                              refine ur_ldI rfl rfl ?_
                              refine ur_ldI rfl rfl ?_
                              refine ur_inl rfl (rcv_of hc2) (Nat.le_of_ble_eq_true rfl) (Nat.le_of_ble_eq_true rfl) (sd_X12_newWord hO0 hX0 _ (by show 0 ≤ x14.toInt ∧ x14.toInt ≤ 7; omega) _ (by show 0 ≤ x7.toInt ∧ x7.toInt ≤ 8; omega) _ _ _ _ (by show -1 ≤ x18.toInt ∧ x18.toInt ≤ 19; omega) _ _ (by omega) (by omega) (by omega) (by omega) (fun w469 h473 hr470 hO473 hv473 hp471 hp472 => ?_))
                              have hu473 := hv473
                              obtain ⟨x474, rfl, t475⟩ := hr470
                              show uRun _ (uCall Mt _) _ 181 (_, [(.inl x474)], _, _, _)
                              obtain ⟨fs476, hc477⟩ := hO473.mod
                              obtain ⟨f478, p479, t480⟩ := mf_38 hO473 hc477
                              have t481 := fI_of hc477 p479
                              exact ur_ret rfl rfl (hQ _ _ ⟨_, rfl, Or.inr (Or.inr ⟨⟨⟨by omega, by omega, by omega, by omega, by omega⟩, by omega, fun q => by omega, fun q => by omega, fun q => by omega⟩, by omega, by omega, by omega⟩)⟩ hO473 hu473 (by omega) hp472)
                            · have t482 := ne_no c467
                              exfalso
                              omega
                          · have t483 := ne_no c459
                            refine ur_push rfl ?_
                            exact ur_ret rfl rfl (hQ _ _ ⟨_, rfl, Or.inr (Or.inl ⟨⟨⟨by omega, by omega, by omega, by omega, by omega⟩, by omega, fun q => by omega, fun q => by omega, fun q => by omega⟩, by omega, by omega, by omega⟩)⟩ hO0 un.rf (by omega) hX0)
                        · have t484 := t456 c457
                          clear t455 t456
                          refine ur_push rfl ?_
                          exact ur_ret rfl rfl (hQ _ _ ⟨_, rfl, Or.inl ⟨fun q => by omega, by omega, by omega⟩⟩ hO0 un.rf (by omega) hX0)
                · have t485 := t346 c348
                  clear t346 t347
                  refine ur_ldI rfl rfl ?_
                  refine ur_push rfl ?_
                  refine ur_push rfl ?_
                  refine ur_callv rfl rfl (Nat.le_of_ble_eq_true rfl) (Nat.le_of_ble_eq_true rfl) rfl (sp_in _ _ _ _ _) ?_
                  refine ur_eqB rfl (fun c488 => ?_) (fun c488 => ?_)
                  · have t489 := wi_noL c488 l_0 l_23
                    refine ur_push rfl ?_
                    exact ur_ret rfl rfl (hQ _ _ ⟨_, rfl, Or.inl ⟨fun q => by omega, by omega, by omega⟩⟩ hO0 un.rf (by omega) hX0)
                  · have t490 := wi_toL c488 l_0 l_23
                    refine ur_ldI rfl rfl ?_
                    refine ur_inl rfl rfl (Nat.le_of_ble_eq_true rfl) (Nat.le_of_ble_eq_true rfl) (sd_X12_isSided hO0 _ (fun w491 hr492 => ?_))
                    obtain ⟨b493, rfl, t494, t495⟩ := hr492
                    show uRun _ (uCall Mt _) _ 105 (_, [(.inl (bi b493))], _, _, _)
                    refine ur_eqB rfl (fun c496 => ?_) (fun c496 => ?_)
                    · have t497 := t495 c496
                      clear t494 t495
                      refine ur_ldI rfl rfl ?_
                      refine ur_push rfl ?_
                      refine ur_if2 rfl (fun c498 => ?_) (fun c498 => ?_)
                      · have t499 := ne_to c498
                        refine ur_ldA rfl rfl ?_
                        refine ur_get rfl hc2 p4 ?_
                        refine ur_push rfl ?_
                        refine ur_if2 rfl (fun c500 => ?_) (fun c500 => ?_)
                        · have t501 := ne_to c500
                          refine ur_ldA rfl rfl ?_
                          refine ur_ldI rfl rfl ?_
                          refine ur_ldI rfl rfl ?_
                          refine ur_ldA rfl rfl ?_
                          obtain ⟨f502, p503⟩ := mf_47 hO0 hc2
                          refine ur_get rfl hc2 p503 ?_
                          refine ur_ldA rfl rfl ?_
                          obtain ⟨f504, p505⟩ := mf_48 hO0 hc2
                          refine ur_get rfl hc2 p505 ?_
                          refine ur_ldA rfl rfl ?_
                          obtain ⟨f506, p507⟩ := mf_49 hO0 hc2
                          refine ur_get rfl hc2 p507 ?_
                          refine ur_ldI rfl rfl ?_
                          refine ur_push rfl ?_
                          refine ur_if2 rfl (fun c508 => ?_) (fun c508 => ?_)
                          · have t509 := ne_to c508
                            refine ur_ldI rfl rfl ?_
                            refine ur_ldI rfl rfl ?_
                            refine ur_ldI rfl rfl ?_
                            refine ur_inl rfl (rcv_of hc2) (Nat.le_of_ble_eq_true rfl) (Nat.le_of_ble_eq_true rfl) (sd_X12_newWord hO0 hX0 _ (by show 0 ≤ x14.toInt ∧ x14.toInt ≤ 7; omega) _ (by show 0 ≤ x7.toInt ∧ x7.toInt ≤ 8; omega) _ _ _ _ (by show -1 ≤ x18.toInt ∧ x18.toInt ≤ 19; omega) _ _ (by omega) (by omega) (by omega) (by omega) (fun w510 h514 hr511 hO514 hv514 hp512 hp513 => ?_))
                            have hu514 := hv514
                            obtain ⟨x515, rfl, t516⟩ := hr511
                            show uRun _ (uCall Mt _) _ 181 (_, [(.inl x515)], _, _, _)
                            obtain ⟨fs517, hc518⟩ := hO514.mod
                            obtain ⟨f519, p520, t521⟩ := mf_38 hO514 hc518
                            have t522 := fI_of hc518 p520
                            exact ur_ret rfl rfl (hQ _ _ ⟨_, rfl, Or.inr (Or.inr ⟨⟨⟨by omega, by omega, by omega, by omega, by omega⟩, by omega, fun q => by omega, fun q => by omega, fun q => by omega⟩, by omega, by omega, by omega⟩)⟩ hO514 hu514 (by omega) hp513)
                          · have t523 := ne_no c508
                            exfalso
                            omega
                        · have t524 := ne_no c500
                          refine ur_push rfl ?_
                          exact ur_ret rfl rfl (hQ _ _ ⟨_, rfl, Or.inr (Or.inl ⟨⟨⟨by omega, by omega, by omega, by omega, by omega⟩, by omega, fun q => by omega, fun q => by omega, fun q => by omega⟩, by omega, by omega, by omega⟩)⟩ hO0 un.rf (by omega) hX0)
                      · have t525 := ne_no c498
                        refine ur_ldA rfl rfl ?_
                        refine ur_ldI rfl rfl ?_
                        refine ur_inl rfl (rcv_of hc2) (Nat.le_of_ble_eq_true rfl) (Nat.le_of_ble_eq_true rfl) (sd_X12_isWord hO0 _ (fun w526 hr527 => ?_))
                        obtain ⟨b528, rfl, t529, t530⟩ := hr527
                        show uRun _ (uCall Mt _) _ 128 (_, [(.inl (bi b528))], _, _, _)
                        refine ur_neB rfl (fun c531 => ?_) (fun c531 => ?_)
                        · have t532 := t529 c531
                          clear t529 t530
                          refine ur_ldA rfl rfl ?_
                          refine ur_get rfl hc2 p4 ?_
                          refine ur_push rfl ?_
                          refine ur_if2 rfl (fun c533 => ?_) (fun c533 => ?_)
                          · have t534 := ne_to c533
                            refine ur_ldA rfl rfl ?_
                            refine ur_ldI rfl rfl ?_
                            refine ur_ldI rfl rfl ?_
                            refine ur_ldA rfl rfl ?_
                            obtain ⟨f535, p536⟩ := mf_47 hO0 hc2
                            refine ur_get rfl hc2 p536 ?_
                            refine ur_ldA rfl rfl ?_
                            obtain ⟨f537, p538⟩ := mf_48 hO0 hc2
                            refine ur_get rfl hc2 p538 ?_
                            refine ur_ldA rfl rfl ?_
                            obtain ⟨f539, p540⟩ := mf_49 hO0 hc2
                            refine ur_get rfl hc2 p540 ?_
                            refine ur_ldI rfl rfl ?_
                            refine ur_push rfl ?_
                            refine ur_if2 rfl (fun c541 => ?_) (fun c541 => ?_)
                            · have t542 := ne_to c541
                              refine ur_ldI rfl rfl ?_
                              refine ur_ldI rfl rfl ?_
                              refine ur_ldI rfl rfl ?_
                              refine ur_inl rfl (rcv_of hc2) (Nat.le_of_ble_eq_true rfl) (Nat.le_of_ble_eq_true rfl) (sd_X12_newWord hO0 hX0 _ (by show 0 ≤ x14.toInt ∧ x14.toInt ≤ 7; omega) _ (by show 0 ≤ x7.toInt ∧ x7.toInt ≤ 8; omega) _ _ _ _ (by show -1 ≤ x18.toInt ∧ x18.toInt ≤ 19; omega) _ _ (by omega) (by omega) (by omega) (by omega) (fun w543 h547 hr544 hO547 hv547 hp545 hp546 => ?_))
                              have hu547 := hv547
                              obtain ⟨x548, rfl, t549⟩ := hr544
                              show uRun _ (uCall Mt _) _ 181 (_, [(.inl x548)], _, _, _)
                              obtain ⟨fs550, hc551⟩ := hO547.mod
                              obtain ⟨f552, p553, t554⟩ := mf_38 hO547 hc551
                              have t555 := fI_of hc551 p553
                              exact ur_ret rfl rfl (hQ _ _ ⟨_, rfl, Or.inr (Or.inr ⟨⟨⟨by omega, by omega, by omega, by omega, by omega⟩, by omega, fun q => by omega, fun q => by omega, fun q => by omega⟩, by omega, by omega, by omega⟩)⟩ hO547 hu547 (by omega) hp546)
                            · have t556 := ne_no c541
                              exfalso
                              omega
                          · have t557 := ne_no c533
                            refine ur_push rfl ?_
                            exact ur_ret rfl rfl (hQ _ _ ⟨_, rfl, Or.inr (Or.inl ⟨⟨⟨by omega, by omega, by omega, by omega, by omega⟩, by omega, fun q => by omega, fun q => by omega, fun q => by omega⟩, by omega, by omega, by omega⟩)⟩ hO0 un.rf (by omega) hX0)
                        · have t558 := t530 c531
                          clear t529 t530
                          refine ur_push rfl ?_
                          exact ur_ret rfl rfl (hQ _ _ ⟨_, rfl, Or.inl ⟨fun q => by omega, by omega, by omega⟩⟩ hO0 un.rf (by omega) hX0)
                    · have t559 := t494 c496
                      clear t494 t495
                      refine ur_ldI rfl rfl ?_
                      refine ur_push rfl ?_
                      refine ur_push rfl ?_
                      refine ur_callv rfl rfl (Nat.le_of_ble_eq_true rfl) (Nat.le_of_ble_eq_true rfl) rfl (sp_in _ _ _ _ _) ?_
                      refine ur_eqB rfl (fun c562 => ?_) (fun c562 => ?_)
                      · have t563 := wi_noL c562 l_0 l_1
                        refine ur_push rfl ?_
                        exact ur_ret rfl rfl (hQ _ _ ⟨_, rfl, Or.inl ⟨fun q => by omega, by omega, by omega⟩⟩ hO0 un.rf (by omega) hX0)
                      · have t564 := wi_toL c562 l_0 l_1
                        refine ur_ldI rfl rfl ?_
                        refine ur_push rfl ?_
                        refine ur_if2 rfl (fun c565 => ?_) (fun c565 => ?_)
                        · have t566 := ne_to c565
                          refine ur_ldA rfl rfl ?_
                          refine ur_get rfl hc2 p4 ?_
                          refine ur_push rfl ?_
                          refine ur_if2 rfl (fun c567 => ?_) (fun c567 => ?_)
                          · have t568 := ne_to c567
                            refine ur_ldA rfl rfl ?_
                            refine ur_ldI rfl rfl ?_
                            refine ur_ldI rfl rfl ?_
                            refine ur_ldA rfl rfl ?_
                            obtain ⟨f569, p570⟩ := mf_47 hO0 hc2
                            refine ur_get rfl hc2 p570 ?_
                            refine ur_ldA rfl rfl ?_
                            obtain ⟨f571, p572⟩ := mf_48 hO0 hc2
                            refine ur_get rfl hc2 p572 ?_
                            refine ur_ldA rfl rfl ?_
                            obtain ⟨f573, p574⟩ := mf_49 hO0 hc2
                            refine ur_get rfl hc2 p574 ?_
                            refine ur_ldI rfl rfl ?_
                            refine ur_push rfl ?_
                            refine ur_if2 rfl (fun c575 => ?_) (fun c575 => ?_)
                            · have t576 := ne_to c575
                              refine ur_ldI rfl rfl ?_
                              refine ur_ldI rfl rfl ?_
                              refine ur_ldI rfl rfl ?_
                              refine ur_inl rfl (rcv_of hc2) (Nat.le_of_ble_eq_true rfl) (Nat.le_of_ble_eq_true rfl) (sd_X12_newWord hO0 hX0 _ (by show 0 ≤ x14.toInt ∧ x14.toInt ≤ 7; omega) _ (by show 0 ≤ x7.toInt ∧ x7.toInt ≤ 8; omega) _ _ _ _ (by show -1 ≤ x18.toInt ∧ x18.toInt ≤ 19; omega) _ _ (by omega) (by omega) (by omega) (by omega) (fun w577 h581 hr578 hO581 hv581 hp579 hp580 => ?_))
                              have hu581 := hv581
                              obtain ⟨x582, rfl, t583⟩ := hr578
                              show uRun _ (uCall Mt _) _ 181 (_, [(.inl x582)], _, _, _)
                              obtain ⟨fs584, hc585⟩ := hO581.mod
                              obtain ⟨f586, p587, t588⟩ := mf_38 hO581 hc585
                              have t589 := fI_of hc585 p587
                              exact ur_ret rfl rfl (hQ _ _ ⟨_, rfl, Or.inr (Or.inr ⟨⟨⟨by omega, by omega, by omega, by omega, by omega⟩, by omega, fun q => by omega, fun q => by omega, fun q => by omega⟩, by omega, by omega, by omega⟩)⟩ hO581 hu581 (by omega) hp580)
                            · have t590 := ne_no c575
                              exfalso
                              omega
                          · have t591 := ne_no c567
                            refine ur_push rfl ?_
                            exact ur_ret rfl rfl (hQ _ _ ⟨_, rfl, Or.inr (Or.inl ⟨⟨⟨by omega, by omega, by omega, by omega, by omega⟩, by omega, fun q => by omega, fun q => by omega, fun q => by omega⟩, by omega, by omega, by omega⟩)⟩ hO0 un.rf (by omega) hX0)
                        · have t592 := ne_no c565
                          refine ur_ldA rfl rfl ?_
                          refine ur_ldI rfl rfl ?_
                          refine ur_inl rfl (rcv_of hc2) (Nat.le_of_ble_eq_true rfl) (Nat.le_of_ble_eq_true rfl) (sd_X12_isWord hO0 _ (fun w593 hr594 => ?_))
                          obtain ⟨b595, rfl, t596, t597⟩ := hr594
                          show uRun _ (uCall Mt _) _ 128 (_, [(.inl (bi b595))], _, _, _)
                          refine ur_neB rfl (fun c598 => ?_) (fun c598 => ?_)
                          · have t599 := t596 c598
                            clear t596 t597
                            refine ur_ldA rfl rfl ?_
                            refine ur_get rfl hc2 p4 ?_
                            refine ur_push rfl ?_
                            refine ur_if2 rfl (fun c600 => ?_) (fun c600 => ?_)
                            · have t601 := ne_to c600
                              refine ur_ldA rfl rfl ?_
                              refine ur_ldI rfl rfl ?_
                              refine ur_ldI rfl rfl ?_
                              refine ur_ldA rfl rfl ?_
                              obtain ⟨f602, p603⟩ := mf_47 hO0 hc2
                              refine ur_get rfl hc2 p603 ?_
                              refine ur_ldA rfl rfl ?_
                              obtain ⟨f604, p605⟩ := mf_48 hO0 hc2
                              refine ur_get rfl hc2 p605 ?_
                              refine ur_ldA rfl rfl ?_
                              obtain ⟨f606, p607⟩ := mf_49 hO0 hc2
                              refine ur_get rfl hc2 p607 ?_
                              refine ur_ldI rfl rfl ?_
                              refine ur_push rfl ?_
                              refine ur_if2 rfl (fun c608 => ?_) (fun c608 => ?_)
                              · have t609 := ne_to c608
                                refine ur_ldI rfl rfl ?_
                                refine ur_ldI rfl rfl ?_
                                refine ur_ldI rfl rfl ?_
                                refine ur_inl rfl (rcv_of hc2) (Nat.le_of_ble_eq_true rfl) (Nat.le_of_ble_eq_true rfl) (sd_X12_newWord hO0 hX0 _ (by show 0 ≤ x14.toInt ∧ x14.toInt ≤ 7; omega) _ (by show 0 ≤ x7.toInt ∧ x7.toInt ≤ 8; omega) _ _ _ _ (by show -1 ≤ x18.toInt ∧ x18.toInt ≤ 19; omega) _ _ (by omega) (by omega) (by omega) (by omega) (fun w610 h614 hr611 hO614 hv614 hp612 hp613 => ?_))
                                have hu614 := hv614
                                obtain ⟨x615, rfl, t616⟩ := hr611
                                show uRun _ (uCall Mt _) _ 181 (_, [(.inl x615)], _, _, _)
                                obtain ⟨fs617, hc618⟩ := hO614.mod
                                obtain ⟨f619, p620, t621⟩ := mf_38 hO614 hc618
                                have t622 := fI_of hc618 p620
                                exact ur_ret rfl rfl (hQ _ _ ⟨_, rfl, Or.inr (Or.inr ⟨⟨⟨by omega, by omega, by omega, by omega, by omega⟩, by omega, fun q => by omega, fun q => by omega, fun q => by omega⟩, by omega, by omega, by omega⟩)⟩ hO614 hu614 (by omega) hp613)
                              · have t623 := ne_no c608
                                exfalso
                                omega
                            · have t624 := ne_no c600
                              refine ur_push rfl ?_
                              exact ur_ret rfl rfl (hQ _ _ ⟨_, rfl, Or.inr (Or.inl ⟨⟨⟨by omega, by omega, by omega, by omega, by omega⟩, by omega, fun q => by omega, fun q => by omega, fun q => by omega⟩, by omega, by omega, by omega⟩)⟩ hO0 un.rf (by omega) hX0)
                          · have t625 := t597 c598
                            clear t596 t597
                            refine ur_push rfl ?_
                            exact ur_ret rfl rfl (hQ _ _ ⟨_, rfl, Or.inl ⟨fun q => by omega, by omega, by omega⟩⟩ hO0 un.rf (by omega) hX0)
              · have t626 := wi_noL c341 l_0 l_400
                refine ur_push rfl ?_
                exact ur_ret rfl rfl (hQ _ _ ⟨_, rfl, Or.inl ⟨fun q => by omega, by omega, by omega⟩⟩ hO0 un.rf (by omega) hX0)

set_option maxRecDepth 20000 in
set_option maxHeartbeats 4000000 in
theorem sd_X12_words {d kc ks : Nat} {h0 : aH} {Q : Option aV → aH → Prop} (hO0 : OK h0) (hX0 : SX h0) (a1 : Int32) (a2 : Int32) (a3 : Int32) (a4 : Int32) (hQ : ∀ r h', (∃ x : Int32, r = some (.inl x) ∧ ((¬ ((0 ≤ a1.toInt ∧ a1.toInt ≤ 8) ∧ (0 ≤ a2.toInt ∧ a2.toInt ≤ 5) ∧ 1 ≤ a4.toInt ∧ a4.toInt ≤ 12) → x.toInt = -1 ∧ fI h' 38 = fI h0 38) ∧ (((0 ≤ a1.toInt ∧ a1.toInt ≤ 8) ∧ (0 ≤ a2.toInt ∧ a2.toInt ≤ 5) ∧ 1 ≤ a4.toInt ∧ a4.toInt ≤ 12) ∧ gI h0 110 a2.toInt = -1 → x.toInt = 0 ∧ fI h' 38 = fI h0 38) ∧ (((0 ≤ a1.toInt ∧ a1.toInt ≤ 8) ∧ (0 ≤ a2.toInt ∧ a2.toInt ≤ 5) ∧ 1 ≤ a4.toInt ∧ a4.toInt ≤ 12) ∧ gI h0 110 a2.toInt ≠ -1 ∧ gI h0 110 a2.toInt ≠ -3 → x.toInt = -12 ∧ fI h' 38 = fI h0 38) ∧ (((0 ≤ a1.toInt ∧ a1.toInt ≤ 8) ∧ (0 ≤ a2.toInt ∧ a2.toInt ≤ 5) ∧ 1 ≤ a4.toInt ∧ a4.toInt ≤ 12) ∧ gI h0 110 a2.toInt = -3 → isR (GM h0 a2.toInt a3.toInt a4.toInt (fI h0 38)) x.toInt ∧ fI h' 38 = fI h0 38 + x.toInt))) → OK h' → un [96, 97, 98, 99, 100, 101, 102, 103, 7938] h0 h' → (fI h' 38 ≤ fI h0 38 + 12) → (SX h') → Q r h') : uCall Mt (d + 3) 240 [(.inr (.inr (some 69))), (.inl a1), (.inl a2), (.inl a3), (.inl a4)] h0 kc ks Q := by
  have l_m12 : ((-12) : Int32).toInt = -12 := by decide
  have l_m3 : ((-3) : Int32).toInt = -3 := by decide
  have l_m1 : ((-1) : Int32).toInt = -1 := by decide
  have l_0 : ((0) : Int32).toInt = 0 := by decide
  have l_1 : ((1) : Int32).toInt = 1 := by decide
  have l_2 : ((2) : Int32).toInt = 2 := by decide
  have l_3 : ((3) : Int32).toInt = 3 := by decide
  have l_4 : ((4) : Int32).toInt = 4 := by decide
  have l_5 : ((5) : Int32).toInt = 5 := by decide
  have l_8 : ((8) : Int32).toInt = 8 := by decide
  have l_12 : ((12) : Int32).toInt = 12 := by decide
  have l_60 : ((60) : Int32).toInt = 60 := by decide
  have l_150 : ((150) : Int32).toInt = 150 := by decide
  have l_400 : ((400) : Int32).toInt = 400 := by decide
  have l_9999 : ((9999) : Int32).toInt = 9999 := by decide
  refine uc_ink [some (.inr (.inr (some 69))), some (.inl a1), some (.inl a2), some (.inl a3), some (.inl a4), none, none, none, none, none, none, none, none] mt_240 (Nat.le_of_ble_eq_true rfl) rfl ?_
  obtain ⟨fs1, hc2⟩ := hO0.mod
  obtain ⟨f3, p4, t5⟩ := mf_38 hO0 hc2
  have t6 := fI_of hc2 p4
  have t7 := gI111 hO0 a2.toInt
  refine ur_ldI rfl rfl ?_
  refine ur_callv rfl rfl (Nat.le_of_ble_eq_true rfl) (Nat.le_of_ble_eq_true rfl) rfl (sq_isPpl _ _) ?_
  refine ur_eqB rfl (fun c10 => ?_) (fun c10 => ?_)
  · have t11 := wi_noL c10 l_0 l_8
    refine ur_push rfl ?_
    exact ur_ret rfl rfl (hQ _ _ ⟨_, rfl, ⟨fun q => by omega, fun q => by omega, fun q => by omega, fun q => by exfalso; omega⟩⟩ hO0 un.rf (by omega) hX0)
  · have t12 := wi_toL c10 l_0 l_8
    refine ur_ldI rfl rfl ?_
    refine ur_callv rfl rfl (Nat.le_of_ble_eq_true rfl) (Nat.le_of_ble_eq_true rfl) rfl (sq_isShf _ _) ?_
    refine ur_eqB rfl (fun c15 => ?_) (fun c15 => ?_)
    · have t16 := wi_noL c15 l_0 l_5
      refine ur_push rfl ?_
      exact ur_ret rfl rfl (hQ _ _ ⟨_, rfl, ⟨fun q => by omega, fun q => by omega, fun q => by omega, fun q => by exfalso; omega⟩⟩ hO0 un.rf (by omega) hX0)
    · have t17 := wi_toL c15 l_0 l_5
      refine ur_ldI rfl rfl ?_
      refine ur_push rfl ?_
      refine ur_push rfl ?_
      refine ur_callv rfl rfl (Nat.le_of_ble_eq_true rfl) (Nat.le_of_ble_eq_true rfl) rfl (sp_in _ _ _ _ _) ?_
      refine ur_neB rfl (fun c20 => ?_) (fun c20 => ?_)
      · have t21 := wi_toL c20 l_1 l_12
        refine ur_ldA rfl rfl ?_
        refine ur_get rfl hc2 (mf_65 hO0 hc2) ?_
        refine ur_ldI rfl rfl ?_
        obtain ⟨xs23, hc22, hn24, he25⟩ := hO0.int (hO0.fix 110 (by decide) rfl)
        refine ur_aldV rfl hc22 hn24 (by omega) (fun x26 hx27 => ?_)
        have t28 := gI_of (j := a2) hc22 hx27
        have t29 : -6 ≤ x26.toInt ∧ x26.toInt ≤ 149 := he25 _ _ hx27
        refine ur_push rfl ?_
        refine ur_if2 rfl (fun c30 => ?_) (fun c30 => ?_)
        · have t31 := eq_to c30
          refine ur_ldA rfl rfl ?_
          refine ur_get rfl hc2 (mf_65 hO0 hc2) ?_
          refine ur_ldI rfl rfl ?_
          refine ur_aldV rfl hc22 hn24 (by omega) (fun x32 hx33 => ?_)
          obtain rfl : x26 = x32 := Option.some.inj (hx27.symm.trans hx33)
          refine ur_push rfl ?_
          refine ur_if2 rfl (fun c34 => ?_) (fun c34 => ?_)
          · have t35 := ne_to c34
            exfalso
            omega
          · have t36 := ne_no c34
            refine ur_push rfl ?_
            exact ur_ret rfl rfl (hQ _ _ ⟨_, rfl, ⟨fun q => by omega, fun q => by omega, fun q => by omega, fun q => by exfalso; omega⟩⟩ hO0 un.rf (by omega) hX0)
        · have t37 := eq_no c30
          refine ur_ldA rfl rfl ?_
          refine ur_get rfl hc2 (mf_65 hO0 hc2) ?_
          refine ur_ldI rfl rfl ?_
          refine ur_aldV rfl hc22 hn24 (by omega) (fun x38 hx39 => ?_)
          obtain rfl : x26 = x38 := Option.some.inj (hx27.symm.trans hx39)
          refine ur_push rfl ?_
          refine ur_if2 rfl (fun c40 => ?_) (fun c40 => ?_)
          · have t41 := eq_to c40
            refine ur_ldA rfl rfl ?_
            refine ur_get rfl hc2 (mf_65 hO0 hc2) ?_
            refine ur_ldI rfl rfl ?_
            refine ur_aldV rfl hc22 hn24 (by omega) (fun x42 hx43 => ?_)
            obtain rfl : x26 = x42 := Option.some.inj (hx27.symm.trans hx43)
            refine ur_push rfl ?_
            refine ur_if2 rfl (fun c44 => ?_) (fun c44 => ?_)
            · have t45 := ne_to c44
              refine ur_push rfl ?_
              refine ur_svIk [some (.inr (.inr (some 69))), some (.inl a1), some (.inl a2), some (.inl a3), some (.inl a4), some (.inl 0), none, none, none, none, none, none, none] rfl rfl ?_
              have L53 : ∀ (m54 : Nat) (x46 : Int32) (u47 : Option aV) (u48 : Option aV) (u49 : Option aV) (u50 : Option aV) (u51 : Option aV) (u52 : Option aV) (h56 : aH) , OK h56 → un [96, 97, 98, 99, 100, 101, 102, 103, 7938] h0 h56 → ((0 ≤ x46.toInt ∧ x46.toInt ≤ 12) ∧ fI h56 38 = fI h0 38 + x46.toInt ∧ x46.toInt ≤ a4.toInt) → (∀ j : Nat, (j : Int) < x46.toInt → GM h0 a2.toInt a3.toInt a4.toInt (fI h0 38) j) → (SX h56) → ((13 - x46.toInt).toNat) < m54 → uRun oX12_words (uCall Mt (d + 2)) Q 66 ([some (.inr (.inr (some 69))), some (.inl a1), some (.inl a2), some (.inl a3), some (.inl a4), some (.inl x46), u47, none, u48, u49, u50, u51, u52], [], h56, kc, ks) := by
                intro m54
                induction m54 with
                | zero => intro x46 u47 u48 u49 u50 u51 u52 h56 hO56 hu56 iv59 px57 px58 mm60; omega
                | succ m54 ih55 =>
                  intro x46 u47 u48 u49 u50 u51 u52 h56 hO56 hu56 iv59 px57 px58 mm60
                  refine ur_ldI rfl rfl ?_
                  refine ur_ldI rfl rfl ?_
                  have z61 := any_r x46
                  have z62 := any_r a4
                  refine ur_if2 rfl (fun c63 => ?_) (fun c63 => ?_)
                  · have t64 := le_to c63
                    refine ur_ldI rfl rfl ?_
                    obtain ⟨fs65, hc66⟩ := hO56.mod
                    obtain ⟨f67, p68, t69⟩ := mf_38 hO56 hc66
                    have t70 := fI_of hc66 p68
                    exact ur_ret rfl rfl (hQ _ _ ⟨_, rfl, ⟨fun q => absurd (by omega) q, fun q => by exfalso; omega, fun q => by exfalso; omega, fun _ => ⟨⟨by omega, (fun j hj => px57 j (by omega)), fun q => by unfold GM FOKd at q; rw [show ((a4.toInt.toNat : Nat) : Int) = a4.toInt by omega] at q; omega⟩, by omega⟩⟩⟩ hO56 hu56 (by omega) px58)
                  · have t71 := le_no c63
                    have t72 : gI h56 111 a2.toInt = gI h0 111 a2.toInt := gI_keep (a := 111) (kd := 0) (n := 6) hO0 hu56 _ (by decide) rfl (by decide) rfl (by decide) (by decide)
                    refine ur_ldI rfl rfl ?_
                    refine ur_i2lV rfl (fun y73 e74 => ?_)
                    have z75 := any_r a3
                    have t76 := tj_i2l e74
                    refine ur_push rfl ?_
                    refine ur_ldI rfl rfl ?_
                    refine ur_binV rfl (fun x77 e78 => ?_)
                    have t79 := ti_mulR e78 l_5 (by omega) (by omega)
                    refine ur_i2lV rfl (fun y80 e81 => ?_)
                    have z82 := any_r x77
                    have t83 := tj_i2l e81
                    refine ur_binJV rfl (fun y84 e85 => ?_)
                    have t86 := tj_add e85 (by omega) (by omega)
                    refine ur_svJk [some (.inr (.inr (some 69))), some (.inl a1), some (.inl a2), some (.inl a3), some (.inl a4), some (.inl x46), some (.inr (.inl y84)), none, u48, u49, u50, u51, u52] rfl rfl ?_
                    refine ur_ldJ rfl rfl ?_
                    refine ur_push rfl ?_
                    refine ur_cmpJV rfl (fun x87 e88 => ?_)
                    have t89 : ((0) : Int64).toInt = 0 := by decide
                    have t90 := tj_cmp e88
                    refine ur_if1 rfl (fun c91 => ?_) (fun c91 => ?_)
                    · have t92 := lt_to c91
                      refine ur_ldI rfl rfl ?_
                      obtain ⟨fs93, hc94⟩ := hO56.mod
                      obtain ⟨f95, p96, t97⟩ := mf_38 hO56 hc94
                      have t98 := fI_of hc94 p96
                      exact ur_ret rfl rfl (hQ _ _ ⟨_, rfl, ⟨fun q => absurd (by omega) q, fun q => by exfalso; omega, fun q => by exfalso; omega, fun _ => ⟨⟨by omega, px57, fun q => by unfold GM FOKd at q; rw [show ((x46.toInt.toNat : Nat) : Int) = x46.toInt by omega] at q; omega⟩, by omega⟩⟩⟩ hO56 hu56 (by omega) px58)
                    · have t99 := lt_no c91
                      refine ur_ldJ rfl rfl ?_
                      refine ur_push rfl ?_
                      refine ur_binJV rfl (fun y100 e101 => ?_)
                      have t102 : ((4) : Int64).toInt = 4 := by decide
                      have t103 : ((4) : Int64).toInt = 4 := by decide
                      have t104 := tj_add e101 (by omega) (by omega)
                      refine ur_ldA rfl rfl ?_
                      obtain ⟨fs105, hc106⟩ := hO56.mod
                      refine ur_get rfl hc106 (mf_66 hO56 hc106) ?_
                      refine ur_ldI rfl rfl ?_
                      obtain ⟨xs108, hc107, hn109, he110⟩ := hO56.int (hO56.fix 111 (by decide) rfl)
                      refine ur_aldV rfl hc107 hn109 (by omega) (fun x111 hx112 => ?_)
                      have t113 := gI_of (j := a2) hc107 hx112
                      have t114 : 0 ≤ x111.toInt ∧ x111.toInt ≤ 60 := he110 _ _ hx112
                      refine ur_i2lV rfl (fun y115 e116 => ?_)
                      have z117 := any_r x111
                      have t118 := tj_i2l e116
                      refine ur_cmpJV rfl (fun x119 e120 => ?_)
                      have t121 := tj_cmp e120
                      refine ur_if1 rfl (fun c122 => ?_) (fun c122 => ?_)
                      · have t123 := le_to c122
                        refine ur_ldI rfl rfl ?_
                        obtain ⟨f124, p125, t126⟩ := mf_38 hO56 hc106
                        have t127 := fI_of hc106 p125
                        exact ur_ret rfl rfl (hQ _ _ ⟨_, rfl, ⟨fun q => absurd (by omega) q, fun q => by exfalso; omega, fun q => by exfalso; omega, fun _ => ⟨⟨by omega, px57, fun q => by unfold GM FOKd at q; rw [show ((x46.toInt.toNat : Nat) : Int) = x46.toInt by omega] at q; omega⟩, by omega⟩⟩⟩ hO56 hu56 (by omega) px58)
                      · have t128 := le_no c122
                        refine ur_ldA rfl rfl ?_
                        obtain ⟨f129, p130, t131⟩ := mf_38 hO56 hc106
                        have t132 := fI_of hc106 p130
                        refine ur_get rfl hc106 p130 ?_
                        refine ur_push rfl ?_
                        refine ur_if2 rfl (fun c133 => ?_) (fun c133 => ?_)
                        · have t134 := ne_to c133
                          refine ur_push rfl ?_
                          refine ur_ldI rfl rfl ?_
                          refine ur_binV rfl (fun x135 e136 => ?_)
                          have z137 := any_r a2
                          have t138 := ti_mulR e136 l_60 (by omega) (by omega)
                          refine ur_ldJ rfl rfl ?_
                          refine ur_l2iV rfl (fun x139 e140 => ?_)
                          have t141 : -2147483648 ≤ y84.toInt ∧ y84.toInt ≤ 2147483647 → x139.toInt = y84.toInt := fun q => tj_l2i e140 q
                          have t142 : 0 ≤ x139.toInt ∧ x139.toInt ≤ 59 := by omega
                          refine ur_binV rfl (fun x143 e144 => ?_)
                          have z145 := any_r x135
                          have z146 := any_r x139
                          have t147 := ti_add e144 (by omega) (by omega)
                          refine ur_svIk [some (.inr (.inr (some 69))), some (.inl a1), some (.inl a2), some (.inl a3), some (.inl a4), some (.inl x46), some (.inr (.inl y84)), none, some (.inl x143), u49, u50, u51, u52] rfl rfl ?_
                          refine ur_ldA rfl rfl ?_
                          refine ur_get rfl hc106 (mf_67 hO56 hc106) ?_
                          refine ur_ldI rfl rfl ?_
                          obtain ⟨xs149, hc148, hn150⟩ := hO56.lon (hO56.fix 112 (by decide) rfl)
                          refine ur_aldJV rfl hc148 hn150 (by omega) (fun y152 hx153 => ?_)
                          have g154 := gL_of (j := x143) hc148 hx153
                          refine ur_l2iV rfl (fun x155 e156 => ?_)
                          have t157 : fl h56 112 x143.toInt = x155.toInt := by unfold fl; rw [g154, e156]
                          have t158 : fl h0 112 (60 * a2.toInt + (a3.toInt + 5 * x46.toInt) + 0) = x155.toInt := (fl_k112 hO0 hu56 (by decide) (by omega)).symm.trans t157
                          refine ur_svIk [some (.inr (.inr (some 69))), some (.inl a1), some (.inl a2), some (.inl a3), some (.inl a4), some (.inl x46), some (.inr (.inl y84)), none, some (.inl x143), some (.inl x155), u50, u51, u52] rfl rfl ?_
                          refine ur_ldA rfl rfl ?_
                          refine ur_get rfl hc106 (mf_67 hO56 hc106) ?_
                          refine ur_ldI rfl rfl ?_
                          refine ur_push rfl ?_
                          refine ur_binV rfl (fun x159 e160 => ?_)
                          have z161 := any_r x143
                          have t162 := ti_add e160 (by omega) (by omega)
                          refine ur_aldJV rfl hc148 hn150 (by omega) (fun y163 hx164 => ?_)
                          have g165 := gL_of (j := x159) hc148 hx164
                          refine ur_l2iV rfl (fun x166 e167 => ?_)
                          have t168 : fl h56 112 x159.toInt = x166.toInt := by unfold fl; rw [g165, e167]
                          have t169 : fl h0 112 (60 * a2.toInt + (a3.toInt + 5 * x46.toInt) + 1) = x166.toInt := (fl_k112 hO0 hu56 (by decide) (by omega)).symm.trans t168
                          refine ur_svIk [some (.inr (.inr (some 69))), some (.inl a1), some (.inl a2), some (.inl a3), some (.inl a4), some (.inl x46), some (.inr (.inl y84)), none, some (.inl x143), some (.inl x155), some (.inl x166), u51, u52] rfl rfl ?_
                          refine ur_ldA rfl rfl ?_
                          refine ur_get rfl hc106 (mf_67 hO56 hc106) ?_
                          refine ur_ldI rfl rfl ?_
                          refine ur_push rfl ?_
                          refine ur_binV rfl (fun x170 e171 => ?_)
                          have t172 := ti_add e171 (by omega) (by omega)
                          refine ur_aldJV rfl hc148 hn150 (by omega) (fun y173 hx174 => ?_)
                          have g175 := gL_of (j := x170) hc148 hx174
                          refine ur_l2iV rfl (fun x176 e177 => ?_)
                          have t178 : fl h56 112 x170.toInt = x176.toInt := by unfold fl; rw [g175, e177]
                          have t179 : fl h0 112 (60 * a2.toInt + (a3.toInt + 5 * x46.toInt) + 2) = x176.toInt := (fl_k112 hO0 hu56 (by decide) (by omega)).symm.trans t178
                          refine ur_svIk [some (.inr (.inr (some 69))), some (.inl a1), some (.inl a2), some (.inl a3), some (.inl a4), some (.inl x46), some (.inr (.inl y84)), none, some (.inl x143), some (.inl x155), some (.inl x166), some (.inl x176), u52] rfl rfl ?_
                          refine ur_ldA rfl rfl ?_
                          refine ur_get rfl hc106 (mf_67 hO56 hc106) ?_
                          refine ur_ldI rfl rfl ?_
                          refine ur_push rfl ?_
                          refine ur_binV rfl (fun x180 e181 => ?_)
                          have t182 := ti_add e181 (by omega) (by omega)
                          refine ur_aldJV rfl hc148 hn150 (by omega) (fun y183 hx184 => ?_)
                          have g185 := gL_of (j := x180) hc148 hx184
                          refine ur_l2iV rfl (fun x186 e187 => ?_)
                          have t188 : fl h56 112 x180.toInt = x186.toInt := by unfold fl; rw [g185, e187]
                          have t189 : fl h0 112 (60 * a2.toInt + (a3.toInt + 5 * x46.toInt) + 4) = x186.toInt := (fl_k112 hO0 hu56 (by decide) (by omega)).symm.trans t188
                          refine ur_svIk [some (.inr (.inr (some 69))), some (.inl a1), some (.inl a2), some (.inl a3), some (.inl a4), some (.inl x46), some (.inr (.inl y84)), none, some (.inl x143), some (.inl x155), some (.inl x166), some (.inl x176), some (.inl x186)] rfl rfl ?_
                          refine ur_ldI rfl rfl ?_
                          refine ur_push rfl ?_
                          refine ur_push rfl ?_
                          refine ur_callv rfl rfl (Nat.le_of_ble_eq_true rfl) (Nat.le_of_ble_eq_true rfl) rfl (sp_in _ _ _ _ _) ?_
                          refine ur_eqB rfl (fun c192 => ?_) (fun c192 => ?_)
                          · have t193 := wi_noL c192 l_0 l_9999
                            refine ur_ldI rfl rfl ?_
                            exact ur_ret rfl rfl (hQ _ _ ⟨_, rfl, ⟨fun q => absurd (by omega) q, fun q => by exfalso; omega, fun q => by exfalso; omega, fun _ => ⟨⟨by omega, px57, fun q => by unfold GM FOKd at q; rw [show ((x46.toInt.toNat : Nat) : Int) = x46.toInt by omega] at q; omega⟩, by omega⟩⟩⟩ hO56 hu56 (by omega) px58)
                          · have t194 := wi_toL c192 l_0 l_9999
                            refine ur_ldI rfl rfl ?_
                            refine ur_push rfl ?_
                            refine ur_push rfl ?_
                            refine ur_callv rfl rfl (Nat.le_of_ble_eq_true rfl) (Nat.le_of_ble_eq_true rfl) rfl (sp_in _ _ _ _ _) ?_
                            refine ur_eqB rfl (fun c197 => ?_) (fun c197 => ?_)
                            · have t198 := wi_noL c197 l_0 l_9999
                              refine ur_ldI rfl rfl ?_
                              exact ur_ret rfl rfl (hQ _ _ ⟨_, rfl, ⟨fun q => absurd (by omega) q, fun q => by exfalso; omega, fun q => by exfalso; omega, fun _ => ⟨⟨by omega, px57, fun q => by unfold GM FOKd at q; rw [show ((x46.toInt.toNat : Nat) : Int) = x46.toInt by omega] at q; omega⟩, by omega⟩⟩⟩ hO56 hu56 (by omega) px58)
                            · have t199 := wi_toL c197 l_0 l_9999
                              refine ur_ldI rfl rfl ?_
                              refine ur_push rfl ?_
                              refine ur_push rfl ?_
                              refine ur_callv rfl rfl (Nat.le_of_ble_eq_true rfl) (Nat.le_of_ble_eq_true rfl) rfl (sp_in _ _ _ _ _) ?_
                              refine ur_eqB rfl (fun c202 => ?_) (fun c202 => ?_)
                              · have t203 := wi_noL c202 l_0 l_9999
                                refine ur_ldI rfl rfl ?_
                                exact ur_ret rfl rfl (hQ _ _ ⟨_, rfl, ⟨fun q => absurd (by omega) q, fun q => by exfalso; omega, fun q => by exfalso; omega, fun _ => ⟨⟨by omega, px57, fun q => by unfold GM FOKd at q; rw [show ((x46.toInt.toNat : Nat) : Int) = x46.toInt by omega] at q; omega⟩, by omega⟩⟩⟩ hO56 hu56 (by omega) px58)
                              · have t204 := wi_toL c202 l_0 l_9999
                                refine ur_ldA rfl rfl ?_
                                refine ur_get rfl hc106 (mf_67 hO56 hc106) ?_
                                refine ur_ldI rfl rfl ?_
                                refine ur_push rfl ?_
                                refine ur_binV rfl (fun x205 e206 => ?_)
                                have t207 := ti_add e206 (by omega) (by omega)
                                refine ur_aldJV rfl hc148 hn150 (by omega) (fun y208 hx209 => ?_)
                                have g210 := gL_of (j := x205) hc148 hx209
                                refine ur_l2iV rfl (fun x211 e212 => ?_)
                                have t213 : fl h56 112 x205.toInt = x211.toInt := by unfold fl; rw [g210, e212]
                                have t214 : fl h0 112 (60 * a2.toInt + (a3.toInt + 5 * x46.toInt) + 3) = x211.toInt := (fl_k112 hO0 hu56 (by decide) (by omega)).symm.trans t213
                                refine ur_push rfl ?_
                                refine ur_push rfl ?_
                                refine ur_callv rfl rfl (Nat.le_of_ble_eq_true rfl) (Nat.le_of_ble_eq_true rfl) rfl (sp_in _ _ _ _ _) ?_
                                refine ur_eqB rfl (fun c217 => ?_) (fun c217 => ?_)
                                · have t218 := wi_noL c217 l_0 l_400
                                  refine ur_ldI rfl rfl ?_
                                  exact ur_ret rfl rfl (hQ _ _ ⟨_, rfl, ⟨fun q => absurd (by omega) q, fun q => by exfalso; omega, fun q => by exfalso; omega, fun _ => ⟨⟨by omega, px57, fun q => by unfold GM FOKd at q; rw [show ((x46.toInt.toNat : Nat) : Int) = x46.toInt by omega] at q; omega⟩, by omega⟩⟩⟩ hO56 hu56 (by omega) px58)
                                · have t219 := wi_toL c217 l_0 l_400
                                  refine ur_ldI rfl rfl ?_
                                  refine ur_if1 rfl (fun c220 => ?_) (fun c220 => ?_)
                                  · have t221 := eq_to c220
                                    refine ur_ldA rfl rfl ?_
                                    refine ur_ldI rfl rfl ?_
                                    refine ur_ldI rfl rfl ?_
                                    refine ur_ldI rfl rfl ?_
                                    refine ur_ldI rfl rfl ?_
                                    refine ur_ldI rfl rfl ?_
                                    refine ur_push rfl ?_
                                    refine ur_ldA rfl rfl ?_
                                    refine ur_get rfl hc106 (mf_67 hO56 hc106) ?_
                                    refine ur_ldI rfl rfl ?_
                                    refine ur_push rfl ?_
                                    refine ur_binV rfl (fun x222 e223 => ?_)
                                    have t224 := ti_add e223 (by omega) (by omega)
                                    refine ur_aldJV rfl hc148 hn150 (by omega) (fun y225 hx226 => ?_)
                                    have g227 := gL_of (j := x222) hc148 hx226
                                    refine ur_l2iV rfl (fun x228 e229 => ?_)
                                    refine ur_push rfl ?_
                                    refine ur_inl rfl (rcv_of hc106) (Nat.le_of_ble_eq_true rfl) (Nat.le_of_ble_eq_true rfl) (sd_X12_newWord hO56 px58 _ (by show 0 ≤ x186.toInt ∧ x186.toInt ≤ 7; omega) _ (by show 0 ≤ a1.toInt ∧ a1.toInt ≤ 8; omega) _ _ _ _ (by show -1 ≤ ((-1) : Int32).toInt ∧ ((-1) : Int32).toInt ≤ 19; omega) _ _ (by omega) (by omega) (by omega) (by omega) (fun w230 h234 hr231 hO234 hv234 hp232 hp233 => ?_))
                                    have hu234 := hv234
                                    obtain ⟨x235, rfl, t236⟩ := hr231
                                    show uRun _ (uCall Mt _) _ 277 (_, [(.inl x235)], _, _, _)
                                    refine ur_pop rfl rfl ?_
                                    refine ur_incV (fun z => [some (.inr (.inr (some 69))), some (.inl a1), some (.inl a2), some (.inl a3), some (.inl a4), some (.inl z), some (.inr (.inl y84)), none, some (.inl x143), some (.inl x155), some (.inl x166), some (.inl x176), some (.inl x186)]) rfl rfl (fun _ => rfl) (fun x237 e238 => ?_)
                                    have t239 := ti_add e238 (by omega) (by omega)
                                    refine ur_go rfl ?_
                                    obtain ⟨fs240, hc241⟩ := hO234.mod
                                    obtain ⟨f242, p243, t244⟩ := mf_38 hO234 hc241
                                    have t245 := fI_of hc241 p243
                                    have z246 := any_r x237
                                    exact ih55 x237 _ _ _ _ _ _ _ hO234 (hu56.tr hu234) (by omega) (fun j hj => by by_cases q : (j : Int) < x46.toInt; exact px57 j q; have e : (j : Int) = x46.toInt := (by omega); unfold GM FOKd; rw [e]; omega) hp233 (by omega)
                                  · have t247 := eq_no c220
                                    refine ur_ldI rfl rfl ?_
                                    refine ur_push rfl ?_
                                    refine ur_if2 rfl (fun c248 => ?_) (fun c248 => ?_)
                                    · have t249 := eq_to c248
                                      refine ur_ldA rfl rfl ?_
                                      refine ur_ldI rfl rfl ?_
                                      refine ur_ldI rfl rfl ?_
                                      refine ur_ldI rfl rfl ?_
                                      refine ur_ldI rfl rfl ?_
                                      refine ur_ldI rfl rfl ?_
                                      refine ur_push rfl ?_
                                      refine ur_ldA rfl rfl ?_
                                      refine ur_get rfl hc106 (mf_67 hO56 hc106) ?_
                                      refine ur_ldI rfl rfl ?_
                                      refine ur_push rfl ?_
                                      refine ur_binV rfl (fun x250 e251 => ?_)
                                      have t252 := ti_add e251 (by omega) (by omega)
                                      refine ur_aldJV rfl hc148 hn150 (by omega) (fun y253 hx254 => ?_)
                                      have g255 := gL_of (j := x250) hc148 hx254
                                      refine ur_l2iV rfl (fun x256 e257 => ?_)
                                      refine ur_push rfl ?_
                                      refine ur_inl rfl (rcv_of hc106) (Nat.le_of_ble_eq_true rfl) (Nat.le_of_ble_eq_true rfl) (sd_X12_newWord hO56 px58 _ (by show 0 ≤ x186.toInt ∧ x186.toInt ≤ 7; omega) _ (by show 0 ≤ a1.toInt ∧ a1.toInt ≤ 8; omega) _ _ _ _ (by show -1 ≤ ((-1) : Int32).toInt ∧ ((-1) : Int32).toInt ≤ 19; omega) _ _ (by omega) (by omega) (by omega) (by omega) (fun w258 h262 hr259 hO262 hv262 hp260 hp261 => ?_))
                                      have hu262 := hv262
                                      obtain ⟨x263, rfl, t264⟩ := hr259
                                      show uRun _ (uCall Mt _) _ 277 (_, [(.inl x263)], _, _, _)
                                      refine ur_pop rfl rfl ?_
                                      refine ur_incV (fun z => [some (.inr (.inr (some 69))), some (.inl a1), some (.inl a2), some (.inl a3), some (.inl a4), some (.inl z), some (.inr (.inl y84)), none, some (.inl x143), some (.inl x155), some (.inl x166), some (.inl x176), some (.inl x186)]) rfl rfl (fun _ => rfl) (fun x265 e266 => ?_)
                                      have t267 := ti_add e266 (by omega) (by omega)
                                      refine ur_go rfl ?_
                                      obtain ⟨fs268, hc269⟩ := hO262.mod
                                      obtain ⟨f270, p271, t272⟩ := mf_38 hO262 hc269
                                      have t273 := fI_of hc269 p271
                                      have z274 := any_r x265
                                      exact ih55 x265 _ _ _ _ _ _ _ hO262 (hu56.tr hu262) (by omega) (fun j hj => by by_cases q : (j : Int) < x46.toInt; exact px57 j q; have e : (j : Int) = x46.toInt := (by omega); unfold GM FOKd; rw [e]; omega) hp261 (by omega)
                                    · have t275 := eq_no c248
                                      refine ur_ldI rfl rfl ?_
                                      refine ur_push rfl ?_
                                      refine ur_if2 rfl (fun c276 => ?_) (fun c276 => ?_)
                                      · have t277 := eq_to c276
                                        refine ur_ldA rfl rfl ?_
                                        refine ur_ldI rfl rfl ?_
                                        refine ur_ldI rfl rfl ?_
                                        refine ur_ldI rfl rfl ?_
                                        refine ur_ldI rfl rfl ?_
                                        refine ur_ldI rfl rfl ?_
                                        refine ur_push rfl ?_
                                        refine ur_ldA rfl rfl ?_
                                        refine ur_get rfl hc106 (mf_67 hO56 hc106) ?_
                                        refine ur_ldI rfl rfl ?_
                                        refine ur_push rfl ?_
                                        refine ur_binV rfl (fun x278 e279 => ?_)
                                        have t280 := ti_add e279 (by omega) (by omega)
                                        refine ur_aldJV rfl hc148 hn150 (by omega) (fun y281 hx282 => ?_)
                                        have g283 := gL_of (j := x278) hc148 hx282
                                        refine ur_l2iV rfl (fun x284 e285 => ?_)
                                        refine ur_push rfl ?_
                                        refine ur_inl rfl (rcv_of hc106) (Nat.le_of_ble_eq_true rfl) (Nat.le_of_ble_eq_true rfl) (sd_X12_newWord hO56 px58 _ (by show 0 ≤ x186.toInt ∧ x186.toInt ≤ 7; omega) _ (by show 0 ≤ a1.toInt ∧ a1.toInt ≤ 8; omega) _ _ _ _ (by show -1 ≤ ((-1) : Int32).toInt ∧ ((-1) : Int32).toInt ≤ 19; omega) _ _ (by omega) (by omega) (by omega) (by omega) (fun w286 h290 hr287 hO290 hv290 hp288 hp289 => ?_))
                                        have hu290 := hv290
                                        obtain ⟨x291, rfl, t292⟩ := hr287
                                        show uRun _ (uCall Mt _) _ 277 (_, [(.inl x291)], _, _, _)
                                        refine ur_pop rfl rfl ?_
                                        refine ur_incV (fun z => [some (.inr (.inr (some 69))), some (.inl a1), some (.inl a2), some (.inl a3), some (.inl a4), some (.inl z), some (.inr (.inl y84)), none, some (.inl x143), some (.inl x155), some (.inl x166), some (.inl x176), some (.inl x186)]) rfl rfl (fun _ => rfl) (fun x293 e294 => ?_)
                                        have t295 := ti_add e294 (by omega) (by omega)
                                        refine ur_go rfl ?_
                                        obtain ⟨fs296, hc297⟩ := hO290.mod
                                        obtain ⟨f298, p299, t300⟩ := mf_38 hO290 hc297
                                        have t301 := fI_of hc297 p299
                                        have z302 := any_r x293
                                        exact ih55 x293 _ _ _ _ _ _ _ hO290 (hu56.tr hu290) (by omega) (fun j hj => by by_cases q : (j : Int) < x46.toInt; exact px57 j q; have e : (j : Int) = x46.toInt := (by omega); unfold GM FOKd; rw [e]; omega) hp289 (by omega)
                                      · have t303 := eq_no c276
                                        refine ur_ldI rfl rfl ?_
                                        exact ur_ret rfl rfl (hQ _ _ ⟨_, rfl, ⟨fun q => absurd (by omega) q, fun q => by exfalso; omega, fun q => by exfalso; omega, fun _ => ⟨⟨by omega, px57, fun q => by unfold GM FOKd at q; rw [show ((x46.toInt.toNat : Nat) : Int) = x46.toInt by omega] at q; omega⟩, by omega⟩⟩⟩ hO56 hu56 (by omega) px58)
                        · have t304 := ne_no c133
                          refine ur_ldI rfl rfl ?_
                          exact ur_ret rfl rfl (hQ _ _ ⟨_, rfl, ⟨fun q => absurd (by omega) q, fun q => by exfalso; omega, fun q => by exfalso; omega, fun _ => ⟨⟨by omega, px57, fun q => by unfold GM FOKd at q; rw [show ((x46.toInt.toNat : Nat) : Int) = x46.toInt by omega] at q; omega⟩, by omega⟩⟩⟩ hO56 hu56 (by omega) px58)
              exact L53 _ 0 (none) (none) (none) (none) (none) (none) _ hO0 un.rf (by omega) (fun j hj => by exfalso; omega) hX0 (Nat.lt_succ_self _)
            · have t305 := ne_no c44
              exfalso
              omega
          · have t306 := eq_no c40
            refine ur_push rfl ?_
            exact ur_ret rfl rfl (hQ _ _ ⟨_, rfl, ⟨fun q => by omega, fun q => by omega, fun q => by omega, fun q => by exfalso; omega⟩⟩ hO0 un.rf (by omega) hX0)
      · have t307 := wi_noL c20 l_1 l_12
        refine ur_push rfl ?_
        exact ur_ret rfl rfl (hQ _ _ ⟨_, rfl, ⟨fun q => by omega, fun q => by omega, fun q => by omega, fun q => by exfalso; omega⟩⟩ hO0 un.rf (by omega) hX0)

set_option maxRecDepth 20000 in
set_option maxHeartbeats 4000000 in
theorem sd_X1_tellReign {d kc ks : Nat} {h0 : aH} {Q : Option aV → aH → Prop} (hO0 : OK h0) (a1 : Int32) (a2 : Int32) (a3 : Int32) (pre0 : NA h0) (hQ : ∀ r h', (r = none) → OK h' → un [17, 18, 22010, 22011, 22012] h0 h' → (((0 ≤ a1.toInt ∧ a1.toInt ≤ 19) → arI h' 17 = (arI h0 17).set a1.toInt.toNat a2) ∧ (¬ (0 ≤ a1.toInt ∧ a1.toInt ≤ 19) → arI h' 17 = arI h0 17)) → Q r h') : uCall Mt (d + 6) 12 [(.inr (.inr (some 15))), (.inl a1), (.inl a2), (.inl a3)] h0 kc ks Q := by
  have l_0 : ((0) : Int32).toInt = 0 := by decide
  have l_1 : ((1) : Int32).toInt = 1 := by decide
  have l_19 : ((19) : Int32).toInt = 19 := by decide
  refine uc_ink [some (.inr (.inr (some 15))), some (.inl a1), some (.inl a2), some (.inl a3), none, none] mt_12 (Nat.le_of_ble_eq_true rfl) rfl ?_
  refine ur_ldI rfl rfl ?_
  refine ur_push rfl ?_
  refine ur_push rfl ?_
  refine ur_callv rfl rfl (Nat.le_of_ble_eq_true rfl) (Nat.le_of_ble_eq_true rfl) rfl (sp_within _ _ _ _ _) ?_
  refine ur_neB rfl (fun c3 => ?_) (fun c3 => ?_)
  · have t4 := wi_toL c3 l_0 l_19
    refine ur_ldA rfl rfl ?_
    obtain ⟨f6, f7, f8, f9, hc5, k10⟩ := ok_15 hO0
    refine ur_get rfl hc5 rfl ?_
    refine ur_ldI rfl rfl ?_
    refine ur_ldI rfl rfl ?_
    obtain ⟨xs12, hc11, hn13, he14⟩ := hO0.int (hO0.fix 17 (by decide) rfl)
    refine ur_astV (W := [17]) (m := 20) rfl hO0 hc11 (by decide) hn13 (by omega) (any_r _) (Or.inr (Or.inr (wid_fix (by decide) (by decide)))) (fun h17 hO17 hv17 d15 hc16 => ?_)
    have hu17 : un [17, 18, 22010, 22011, 22012] h0 h17 := hv17.mono (by decide)
    have w18 : wI h0 h17 17 ((arI h0 17).set (a1 : Int32).toInt.toNat a2) := ⟨by rw [arI_of hc16, arI_of hc11], d15⟩
    refine ur_ldA rfl rfl ?_
    refine ur_get rfl ((d15 _ (by decide)).trans hc5) rfl ?_
    refine ur_ldI rfl rfl ?_
    refine ur_ldI rfl rfl ?_
    obtain ⟨xs20, hc19, hn21, he22⟩ := hO17.int (hO17.fix 18 (by decide) rfl)
    refine ur_astV (W := [18]) (m := 20) rfl hO17 hc19 (by decide) hn21 (by omega) (any_r _) (Or.inr (Or.inr (wid_fix (by decide) (by decide)))) (fun h25 hO25 hv25 d23 hc24 => ?_)
    have hu25 : un [17, 18, 22010, 22011, 22012] h17 h25 := hv25.mono (by decide)
    have w26 : wI h17 h25 18 ((arI h17 18).set (a1 : Int32).toInt.toNat a3) := ⟨by rw [arI_of hc24, arI_of hc19], d23⟩
    have t27 : arI h25 17 = (arI h0 17).set (a1 : Int32).toInt.toNat a2 := (w26.oI (by decide)).trans w18.1
    refine ur_push rfl ?_
    refine ur_svIk [some (.inr (.inr (some 15))), some (.inl a1), some (.inl a2), some (.inl a3), some (.inl 0), none] rfl rfl ?_
    have L30 : ∀ (m31 : Nat) (x28 : Int32) (u29 : Option aV) (h33 : aH) , OK h33 → un [17, 18, 22010, 22011, 22012] h25 h33 → ((0 ≤ x28.toInt ∧ x28.toInt ≤ 2147483647)) → (arI h33 17 = arI h25 17) → ((2147483648 - x28.toInt).toNat) < m31 → uRun oX1_tellReign (uCall Mt (d + 5)) Q 28 ([some (.inr (.inr (some 15))), some (.inl a1), some (.inl a2), some (.inl a3), some (.inl x28), u29], [], h33, kc, ks) := by
      intro m31
      induction m31 with
      | zero => intro x28 u29 h33 hO33 hu33 iv35 px34 mm36; omega
      | succ m31 ih32 =>
        intro x28 u29 h33 hO33 hu33 iv35 px34 mm36
        refine ur_ldI rfl rfl ?_
        refine ur_ldA rfl rfl ?_
        refine ur_get rfl (hu33.ko (n := 11) ((d23 _ (by decide)).trans ((d15 _ (by decide)).trans hc5)) rfl (wid_f (by decide)) (by decide)) rfl ?_
        have z37 := any_r x28
        have z38 := any_r f6
        refine ur_if2 rfl (fun c39 => ?_) (fun c39 => ?_)
        · have t40 := le_to c39
          exact ur_ret0 rfl (hQ _ _ rfl hO33 (hu17.tr (hu25.tr hu33)) ⟨fun _ => px34.trans t27, fun q => absurd (by omega) q⟩)
        · have t41 := le_no c39
          refine ur_ldA rfl rfl ?_
          refine ur_ldI rfl rfl ?_
          have t42 := fO_of (k := 1) (hu33.ko (n := 11) ((d23 _ (by decide)).trans ((d15 _ (by decide)).trans hc5)) rfl (wid_f (by decide)) (by decide)) rfl
          refine ur_inl rfl (rcv_of (hu33.ko (n := 11) ((d23 _ (by decide)).trans ((d15 _ (by decide)).trans hc5)) rfl (wid_f (by decide)) (by decide))) (Nat.le_of_ble_eq_true rfl) (Nat.le_of_ble_eq_true rfl) (sd_X1_wordAt hO33 _ (pre0.un hO0 hO33 (hu17.tr (hu25.tr hu33)) (by decide) (by decide)) (fun w43 hr44 => ?_))
          obtain ⟨o45, rfl, k46, t47, t48⟩ := hr44
          show uRun _ (uCall Mt _) _ 43 (_, [(.inr (.inr o45))], _, _, _)
          refine ur_svAk [some (.inr (.inr (some 15))), some (.inl a1), some (.inl a2), some (.inl a3), some (.inl x28), some (.inr (.inr o45))] rfl rfl ?_
          refine ur_ldA rfl rfl ?_
          cases o45 with
          | none =>
            refine ur_nulN rfl ?_
            have t50 := t47 rfl
            refine ur_incV (fun z => [some (.inr (.inr (some 15))), some (.inl a1), some (.inl a2), some (.inl a3), some (.inl z), some (.inr (.inr none))]) rfl rfl (fun _ => rfl) (fun x51 e52 => ?_)
            have t53 := ti_add e52 (by omega) (by omega)
            refine ur_go rfl ?_
            have z54 := any_r x51
            exact ih32 x51 _ _ hO33 hu33 (by omega) px34 (by omega)
          | some r49 =>
            refine ur_nulS rfl ?_
            have k55 := k46 _ rfl
            have t56 := t48 _ rfl
            refine ur_ldA rfl rfl ?_
            obtain ⟨g73, f58, f59, f60, f61, f62, f63, f64, f65, f66, o70, f67, f68, f69, hc57, k71, k72⟩ := hO33.word k55.2
            refine ur_get rfl hc57 rfl ?_
            refine ur_ldI rfl rfl ?_
            have z74 := any_r f61
            have z75 := any_r a1
            refine ur_if2 rfl (fun c76 => ?_) (fun c76 => ?_)
            · have t77 := ne_to c76
              refine ur_incV (fun z => [some (.inr (.inr (some 15))), some (.inl a1), some (.inl a2), some (.inl a3), some (.inl z), some (.inr (.inr (some r49)))]) rfl rfl (fun _ => rfl) (fun x78 e79 => ?_)
              have t80 := ti_add e79 (by omega) (by omega)
              refine ur_go rfl ?_
              have z81 := any_r x78
              exact ih32 x78 _ _ hO33 hu33 (by omega) px34 (by omega)
            · have t82 := ne_no c76
              refine ur_ldA rfl rfl ?_
              refine ur_ldA rfl rfl ?_
              refine ur_inl rfl (rcv_of (hu33.ko (n := 11) ((d23 _ (by decide)).trans ((d15 _ (by decide)).trans hc5)) rfl (wid_f (by decide)) (by decide))) (Nat.le_of_ble_eq_true rfl) (Nat.le_of_ble_eq_true rfl) (sf_X1_settleSpans hO33 g73 k55.2 (fun w83 h85 hr84 hO85 hv85 => ?_))
              have hu85 : un [17, 18, 22010, 22011, 22012] h33 h85 := hv85.mono (by decide)
              subst hr84
              show uRun _ (uCall Mt _) _ 65 (_, [], _, _, _)
              refine ur_incV (fun z => [some (.inr (.inr (some 15))), some (.inl a1), some (.inl a2), some (.inl a3), some (.inl z), some (.inr (.inr (some r49)))]) rfl rfl (fun _ => rfl) (fun x86 e87 => ?_)
              have t88 := ti_add e87 (by omega) (by omega)
              refine ur_go rfl ?_
              have z89 := any_r x86
              exact ih32 x86 _ _ hO85 (hu33.tr hu85) (by omega) ((arI_keep (a := 17) (kd := 0) (n := 20) hO33 hv85 (by decide) rfl (by decide) rfl (by decide) (by decide)).trans px34) (by omega)
    exact L30 _ 0 (none) _ hO25 un.rf (by omega) rfl (Nat.lt_succ_self _)
  · have t90 := wi_noL c3 l_0 l_19
    exact ur_ret0 rfl (hQ _ _ rfl hO0 un.rf ⟨fun q => by exfalso; omega, fun _ => rfl⟩)

set_option maxRecDepth 20000 in
set_option maxHeartbeats 4000000 in
theorem se_X11_reign {d kc ks : Nat} {h0 : aH} {Q : Option aV → aH → Prop} (hO0 : OK h0) (a1 : Int32) (a2 : Int32) (a3 : Int32) (pre0 : NA h0) (hQ : ∀ r h', (∃ x : Int32, r = some (.inl x) ∧ (x.toInt = 1 ∧ ((0 ≤ a1.toInt ∧ a1.toInt ≤ 19) ∧ (0 ≤ a2.toInt ∧ a2.toInt ≤ 999999) ∧ (-1 ≤ a3.toInt ∧ a3.toInt ≤ 999999)) ∨ x.toInt = -1 ∧ ¬ ((0 ≤ a1.toInt ∧ a1.toInt ≤ 19) ∧ (0 ≤ a2.toInt ∧ a2.toInt ≤ 999999) ∧ (-1 ≤ a3.toInt ∧ a3.toInt ≤ 999999)))) → OK h' → un [17, 18, 45, 46, 22010, 22011, 22012] h0 h' → ((((0 ≤ a1.toInt ∧ a1.toInt ≤ 19) ∧ (0 ≤ a2.toInt ∧ a2.toInt ≤ 999999) ∧ (-1 ≤ a3.toInt ∧ a3.toInt ≤ 999999)) → arI h' 17 = (arI h0 17).set a1.toInt.toNat a2) ∧ (¬ ((0 ≤ a1.toInt ∧ a1.toInt ≤ 19) ∧ (0 ≤ a2.toInt ∧ a2.toInt ≤ 999999) ∧ (-1 ≤ a3.toInt ∧ a3.toInt ≤ 999999)) → arI h' 17 = arI h0 17)) → Q r h') : uCall Mt (d + 7) 132 [(.inr (.inr (some 0))), (.inl a1), (.inl a2), (.inl a3)] h0 kc ks Q := by
  have l_m1 : ((-1) : Int32).toInt = -1 := by decide
  have l_0 : ((0) : Int32).toInt = 0 := by decide
  have l_1 : ((1) : Int32).toInt = 1 := by decide
  have l_19 : ((19) : Int32).toInt = 19 := by decide
  have l_999999 : ((999999) : Int32).toInt = 999999 := by decide
  refine uc_ink [some (.inr (.inr (some 0))), some (.inl a1), some (.inl a2), some (.inl a3)] mt_132 (Nat.le_of_ble_eq_true rfl) rfl ?_
  refine ur_ldI rfl rfl ?_
  refine ur_push rfl ?_
  refine ur_push rfl ?_
  refine ur_callv rfl rfl (Nat.le_of_ble_eq_true rfl) (Nat.le_of_ble_eq_true rfl) rfl (sp_within _ _ _ _ _) ?_
  refine ur_eqB rfl (fun c3 => ?_) (fun c3 => ?_)
  · have t4 := wi_noL c3 l_0 l_19
    refine ur_push rfl ?_
    exact ur_ret rfl rfl (hQ _ _ ⟨_, rfl, Or.inr ⟨by omega, by omega⟩⟩ hO0 un.rf ⟨fun q => by exfalso; omega, fun _ => rfl⟩)
  · have t5 := wi_toL c3 l_0 l_19
    refine ur_ldI rfl rfl ?_
    refine ur_callv rfl rfl (Nat.le_of_ble_eq_true rfl) (Nat.le_of_ble_eq_true rfl) rfl (sp_isDay _ _) ?_
    refine ur_eqB rfl (fun c8 => ?_) (fun c8 => ?_)
    · have t9 := wi_noL c8 l_0 l_999999
      refine ur_push rfl ?_
      exact ur_ret rfl rfl (hQ _ _ ⟨_, rfl, Or.inr ⟨by omega, by omega⟩⟩ hO0 un.rf ⟨fun q => by exfalso; omega, fun _ => rfl⟩)
    · have t10 := wi_toL c8 l_0 l_999999
      refine ur_ldI rfl rfl ?_
      refine ur_push rfl ?_
      refine ur_push rfl ?_
      refine ur_callv rfl rfl (Nat.le_of_ble_eq_true rfl) (Nat.le_of_ble_eq_true rfl) rfl (sp_within _ _ _ _ _) ?_
      refine ur_neB rfl (fun c13 => ?_) (fun c13 => ?_)
      · have t14 := wi_toL c13 l_m1 l_999999
        refine ur_ldA rfl rfl ?_
        obtain ⟨hc15, k16⟩ := ok_0 hO0
        refine ur_get rfl hc15 rfl ?_
        obtain ⟨f18, f19, hc17, k20⟩ := ok_41 hO0
        refine ur_inl rfl (rcv_of hc17) (Nat.le_of_ble_eq_true rfl) (Nat.le_of_ble_eq_true rfl) (sf_X7_forgetWeights hO0  (fun w21 h23 hr22 hO23 hv23 => ?_))
        have hu23 : un [17, 18, 45, 46, 22010, 22011, 22012] h0 h23 := hv23.mono (by decide)
        subst hr22
        show uRun _ (uCall Mt _) _ 36 (_, [], _, _, _)
        refine ur_ldA rfl rfl ?_
        refine ur_get rfl (hv23.ko (n := 8) hc15 rfl (wid_f (by decide)) (by decide)) rfl ?_
        refine ur_ldI rfl rfl ?_
        refine ur_ldI rfl rfl ?_
        refine ur_ldI rfl rfl ?_
        obtain ⟨f25, f26, f27, f28, hc24, k29⟩ := ok_15 hO23
        refine ur_inl rfl (rcv_of hc24) (Nat.le_of_ble_eq_true rfl) (Nat.le_of_ble_eq_true rfl) (sd_X1_tellReign hO23 _ _ _ (pre0.un hO0 hO23 hu23 (by decide) (by decide)) (fun w30 h33 hr31 hO33 hv33 hp32 => ?_))
        have hu33 : un [17, 18, 45, 46, 22010, 22011, 22012] h23 h33 := hv33.mono (by decide)
        subst hr31
        show uRun _ (uCall Mt _) _ 46 (_, [], _, _, _)
        refine ur_push rfl ?_
        exact ur_ret rfl rfl (hQ _ _ ⟨_, rfl, Or.inl ⟨by omega, by omega⟩⟩ hO33 (hu23.tr hu33) ⟨fun _ => by rw [(hp32.1 (by omega)), show arI h23 17 = arI h0 17 from ((arI_keep (a := 17) (kd := 0) (n := 20) hO0 hv23 (by decide) rfl (by decide) rfl (by decide) (by decide)).trans rfl)], fun q => absurd (by omega) q⟩)
      · have t34 := wi_noL c13 l_m1 l_999999
        refine ur_push rfl ?_
        exact ur_ret rfl rfl (hQ _ _ ⟨_, rfl, Or.inr ⟨by omega, by omega⟩⟩ hO0 un.rf ⟨fun q => by exfalso; omega, fun _ => rfl⟩)

set_option maxRecDepth 20000 in
set_option maxHeartbeats 4000000 in
theorem se_X12_reign {d kc ks : Nat} {h0 : aH} {Q : Option aV → aH → Prop} (hO0 : OK h0) (a1 : Int32) (a2 : Int32) (a3 : Int32) (hQ : ∀ r h', (∃ x : Int32, r = some (.inl x) ∧ (x.toInt = 1 ∧ ((0 ≤ a1.toInt ∧ a1.toInt ≤ 19) ∧ (0 ≤ a2.toInt ∧ a2.toInt ≤ 999999) ∧ (-1 ≤ a3.toInt ∧ a3.toInt ≤ 999999)) ∨ x.toInt = -1 ∧ ¬ ((0 ≤ a1.toInt ∧ a1.toInt ≤ 19) ∧ (0 ≤ a2.toInt ∧ a2.toInt ≤ 999999) ∧ (-1 ≤ a3.toInt ∧ a3.toInt ≤ 999999)))) → OK h' → un [90, 91, 92] h0 h' → ((((0 ≤ a1.toInt ∧ a1.toInt ≤ 19) ∧ (0 ≤ a2.toInt ∧ a2.toInt ≤ 999999) ∧ (-1 ≤ a3.toInt ∧ a3.toInt ≤ 999999)) → ∃ v : Int32, (v.toInt = 1 ∨ v.toInt = 2) ∧ arI h' 91 = (arI h0 91).set a1.toInt.toNat v) ∧ (¬ ((0 ≤ a1.toInt ∧ a1.toInt ≤ 19) ∧ (0 ≤ a2.toInt ∧ a2.toInt ≤ 999999) ∧ (-1 ≤ a3.toInt ∧ a3.toInt ≤ 999999)) → h' = h0)) → Q r h') : uCall Mt (d + 3) 231 [(.inr (.inr (some 69))), (.inl a1), (.inl a2), (.inl a3)] h0 kc ks Q := by
  have l_m1 : ((-1) : Int32).toInt = -1 := by decide
  have l_0 : ((0) : Int32).toInt = 0 := by decide
  have l_1 : ((1) : Int32).toInt = 1 := by decide
  have l_2 : ((2) : Int32).toInt = 2 := by decide
  have l_19 : ((19) : Int32).toInt = 19 := by decide
  have l_999999 : ((999999) : Int32).toInt = 999999 := by decide
  refine uc_ink [some (.inr (.inr (some 69))), some (.inl a1), some (.inl a2), some (.inl a3)] mt_231 (Nat.le_of_ble_eq_true rfl) rfl ?_
  refine ur_ldI rfl rfl ?_
  refine ur_push rfl ?_
  refine ur_push rfl ?_
  refine ur_callv rfl rfl (Nat.le_of_ble_eq_true rfl) (Nat.le_of_ble_eq_true rfl) rfl (sp_in _ _ _ _ _) ?_
  refine ur_eqB rfl (fun c3 => ?_) (fun c3 => ?_)
  · have t4 := wi_noL c3 l_0 l_19
    refine ur_push rfl ?_
    exact ur_ret rfl rfl (hQ _ _ ⟨_, rfl, Or.inr ⟨by omega, by omega⟩⟩ hO0 un.rf ⟨fun q => by exfalso; omega, fun _ => rfl⟩)
  · have t5 := wi_toL c3 l_0 l_19
    refine ur_ldI rfl rfl ?_
    refine ur_callv rfl rfl (Nat.le_of_ble_eq_true rfl) (Nat.le_of_ble_eq_true rfl) rfl (sq_isDay _ _) ?_
    refine ur_eqB rfl (fun c8 => ?_) (fun c8 => ?_)
    · have t9 := wi_noL c8 l_0 l_999999
      refine ur_push rfl ?_
      exact ur_ret rfl rfl (hQ _ _ ⟨_, rfl, Or.inr ⟨by omega, by omega⟩⟩ hO0 un.rf ⟨fun q => by exfalso; omega, fun _ => rfl⟩)
    · have t10 := wi_toL c8 l_0 l_999999
      refine ur_ldI rfl rfl ?_
      refine ur_push rfl ?_
      refine ur_if2 rfl (fun c11 => ?_) (fun c11 => ?_)
      · have t12 := eq_to c11
        refine ur_ldA rfl rfl ?_
        obtain ⟨fs13, hc14⟩ := hO0.mod
        refine ur_get rfl hc14 (mf_31 hO0 hc14) ?_
        refine ur_ldI rfl rfl ?_
        refine ur_ldI rfl rfl ?_
        obtain ⟨xs16, hc15, hn17, he18⟩ := hO0.int (hO0.fix 90 (by decide) rfl)
        refine ur_astV (W := [90, 91, 92]) (m := 20) rfl hO0 hc15 (by decide) hn17 (by omega) (any_r _) (Or.inr (Or.inr (wid_fix (by decide) (by decide)))) (fun h21 hO21 hu21 d19 hc20 => ?_)
        have w22 : wI h0 h21 90 ((arI h0 90).set (a1 : Int32).toInt.toNat a2) := ⟨by rw [arI_of hc20, arI_of hc15], d19⟩
        refine ur_ldA rfl rfl ?_
        refine ur_get rfl ((d19 _ (by decide)).trans hc14) (mf_33 hO21 ((d19 _ (by decide)).trans hc14)) ?_
        refine ur_ldI rfl rfl ?_
        refine ur_ldI rfl rfl ?_
        obtain ⟨xs24, hc23, hn25, he26⟩ := hO21.int (hO21.fix 92 (by decide) rfl)
        refine ur_astV (W := [90, 91, 92]) (m := 20) rfl hO21 hc23 (by decide) hn25 (by omega) (any_r _) (Or.inr (Or.inr (wid_fix (by decide) (by decide)))) (fun h29 hO29 hu29 d27 hc28 => ?_)
        have w30 : wI h21 h29 92 ((arI h21 92).set (a1 : Int32).toInt.toNat a3) := ⟨by rw [arI_of hc28, arI_of hc23], d27⟩
        refine ur_ldA rfl rfl ?_
        refine ur_get rfl ((d27 _ (by decide)).trans ((d19 _ (by decide)).trans hc14)) (mf_32 hO29 ((d27 _ (by decide)).trans ((d19 _ (by decide)).trans hc14))) ?_
        refine ur_ldI rfl rfl ?_
        refine ur_ldI rfl rfl ?_
        refine ur_if1 rfl (fun c31 => ?_) (fun c31 => ?_)
        · have t32 := le_to c31
          exfalso
          omega
        · have t33 := le_no c31
          refine ur_push rfl ?_
          refine ur_go rfl ?_
          obtain ⟨xs35, hc34, hn36, he37⟩ := hO29.int (hO29.fix 91 (by decide) rfl)
          refine ur_astV (W := [90, 91, 92]) (m := 20) rfl hO29 hc34 (by decide) hn36 (by omega) (any_r _) (Or.inr (Or.inr (wid_fix (by decide) (by decide)))) (fun h40 hO40 hu40 d38 hc39 => ?_)
          have w41 : wI h29 h40 91 ((arI h29 91).set (a1 : Int32).toInt.toNat 1) := ⟨by rw [arI_of hc39, arI_of hc34], d38⟩
          refine ur_push rfl ?_
          exact ur_ret rfl rfl (hQ _ _ ⟨_, rfl, Or.inl ⟨by omega, by omega⟩⟩ hO40 (hu21.tr (hu29.tr hu40)) ⟨fun _ => ⟨1, by omega, by rw [w41.1, show arI h29 91 = arI h0 91 from ((w30.oI (by decide)).trans ((w22.oI (by decide)).trans rfl))]⟩, fun q => absurd (by omega) q⟩)
      · have t42 := eq_no c11
        refine ur_ldI rfl rfl ?_
        refine ur_callv rfl rfl (Nat.le_of_ble_eq_true rfl) (Nat.le_of_ble_eq_true rfl) rfl (sq_isDay _ _) ?_
        refine ur_neB rfl (fun c45 => ?_) (fun c45 => ?_)
        · have t46 := wi_toL c45 l_0 l_999999
          refine ur_ldA rfl rfl ?_
          obtain ⟨fs47, hc48⟩ := hO0.mod
          refine ur_get rfl hc48 (mf_31 hO0 hc48) ?_
          refine ur_ldI rfl rfl ?_
          refine ur_ldI rfl rfl ?_
          obtain ⟨xs50, hc49, hn51, he52⟩ := hO0.int (hO0.fix 90 (by decide) rfl)
          refine ur_astV (W := [90, 91, 92]) (m := 20) rfl hO0 hc49 (by decide) hn51 (by omega) (any_r _) (Or.inr (Or.inr (wid_fix (by decide) (by decide)))) (fun h55 hO55 hu55 d53 hc54 => ?_)
          have w56 : wI h0 h55 90 ((arI h0 90).set (a1 : Int32).toInt.toNat a2) := ⟨by rw [arI_of hc54, arI_of hc49], d53⟩
          refine ur_ldA rfl rfl ?_
          refine ur_get rfl ((d53 _ (by decide)).trans hc48) (mf_33 hO55 ((d53 _ (by decide)).trans hc48)) ?_
          refine ur_ldI rfl rfl ?_
          refine ur_ldI rfl rfl ?_
          obtain ⟨xs58, hc57, hn59, he60⟩ := hO55.int (hO55.fix 92 (by decide) rfl)
          refine ur_astV (W := [90, 91, 92]) (m := 20) rfl hO55 hc57 (by decide) hn59 (by omega) (any_r _) (Or.inr (Or.inr (wid_fix (by decide) (by decide)))) (fun h63 hO63 hu63 d61 hc62 => ?_)
          have w64 : wI h55 h63 92 ((arI h55 92).set (a1 : Int32).toInt.toNat a3) := ⟨by rw [arI_of hc62, arI_of hc57], d61⟩
          refine ur_ldA rfl rfl ?_
          refine ur_get rfl ((d61 _ (by decide)).trans ((d53 _ (by decide)).trans hc48)) (mf_32 hO63 ((d61 _ (by decide)).trans ((d53 _ (by decide)).trans hc48))) ?_
          refine ur_ldI rfl rfl ?_
          refine ur_ldI rfl rfl ?_
          refine ur_if1 rfl (fun c65 => ?_) (fun c65 => ?_)
          · have t66 := le_to c65
            refine ur_push rfl ?_
            obtain ⟨xs68, hc67, hn69, he70⟩ := hO63.int (hO63.fix 91 (by decide) rfl)
            refine ur_astV (W := [90, 91, 92]) (m := 20) rfl hO63 hc67 (by decide) hn69 (by omega) (any_r _) (Or.inr (Or.inr (wid_fix (by decide) (by decide)))) (fun h73 hO73 hu73 d71 hc72 => ?_)
            have w74 : wI h63 h73 91 ((arI h63 91).set (a1 : Int32).toInt.toNat 2) := ⟨by rw [arI_of hc72, arI_of hc67], d71⟩
            refine ur_push rfl ?_
            exact ur_ret rfl rfl (hQ _ _ ⟨_, rfl, Or.inl ⟨by omega, by omega⟩⟩ hO73 (hu55.tr (hu63.tr hu73)) ⟨fun _ => ⟨2, by omega, by rw [w74.1, show arI h63 91 = arI h0 91 from ((w64.oI (by decide)).trans ((w56.oI (by decide)).trans rfl))]⟩, fun q => absurd (by omega) q⟩)
          · have t75 := le_no c65
            exfalso
            omega
        · have t76 := wi_noL c45 l_0 l_999999
          refine ur_push rfl ?_
          exact ur_ret rfl rfl (hQ _ _ ⟨_, rfl, Or.inr ⟨by omega, by omega⟩⟩ hO0 un.rf ⟨fun q => by exfalso; omega, fun _ => rfl⟩)
end RWD
