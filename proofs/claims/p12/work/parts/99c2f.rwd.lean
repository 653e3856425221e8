/-! THE REFERENCE'S words; reigns; printed by program -/
section RWD
set_option maxRecDepth 20000 in
set_option maxHeartbeats 4000000 in
theorem sd_X12_isLodged {d kc ks : Nat} {h0 : aH} {Q : Option aV → aH → Prop} (hO0 : OK h0) (a0 : Int32) (hQ : ∀ r, (∃ q, r = some (.inl (bi q)) ∧ (q = true → (a0.toInt = 1 ∨ a0.toInt = 6)) ∧ (q = false → ¬ (a0.toInt = 1 ∨ a0.toInt = 6))) → Q r h0) : uCall Mt (d + 1) 235 [(.inl a0)] h0 kc ks Q := by
  have l_0 : ((0) : Int32).toInt = 0 := by decide
  have l_1 : ((1) : Int32).toInt = 1 := by decide
  have l_6 : ((6) : Int32).toInt = 6 := by decide
  refine uc_ink [some (.inl a0)] mt_235 (Nat.le_of_ble_eq_true rfl) rfl ?_
  refine ur_ldI rfl rfl ?_
  refine ur_push rfl ?_
  refine ur_if2 rfl (fun c1 => ?_) (fun c1 => ?_)
  · have t2 := eq_to c1
    refine ur_push rfl ?_
    refine ur_go rfl ?_
    exact ur_ret rfl rfl (hQ _ ⟨true, rfl, fun _ => by omega, fun e => absurd e (by decide)⟩ )
  · have t3 := eq_no c1
    refine ur_ldI rfl rfl ?_
    refine ur_push rfl ?_
    refine ur_if2 rfl (fun c4 => ?_) (fun c4 => ?_)
    · have t5 := ne_to c4
      refine ur_push rfl ?_
      exact ur_ret rfl rfl (hQ _ ⟨false, rfl, fun e => absurd e (by decide), fun _ => by omega⟩ )
    · have t6 := ne_no c4
      refine ur_push rfl ?_
      refine ur_go rfl ?_
      exact ur_ret rfl rfl (hQ _ ⟨true, rfl, fun _ => by omega, fun e => absurd e (by decide)⟩ )

set_option maxRecDepth 20000 in
set_option maxHeartbeats 4000000 in
theorem sd_X12_isSided {d kc ks : Nat} {h0 : aH} {Q : Option aV → aH → Prop} (hO0 : OK h0) (a0 : Int32) (hQ : ∀ r, (∃ q, r = some (.inl (bi q)) ∧ (q = true → (a0.toInt = 2 ∨ a0.toInt = 7)) ∧ (q = false → ¬ (a0.toInt = 2 ∨ a0.toInt = 7))) → Q r h0) : uCall Mt (d + 1) 236 [(.inl a0)] h0 kc ks Q := by
  have l_0 : ((0) : Int32).toInt = 0 := by decide
  have l_1 : ((1) : Int32).toInt = 1 := by decide
  have l_2 : ((2) : Int32).toInt = 2 := by decide
  have l_7 : ((7) : Int32).toInt = 7 := by decide
  refine uc_ink [some (.inl a0)] mt_236 (Nat.le_of_ble_eq_true rfl) rfl ?_
  refine ur_ldI rfl rfl ?_
  refine ur_push rfl ?_
  refine ur_if2 rfl (fun c1 => ?_) (fun c1 => ?_)
  · have t2 := eq_to c1
    refine ur_push rfl ?_
    refine ur_go rfl ?_
    exact ur_ret rfl rfl (hQ _ ⟨true, rfl, fun _ => by omega, fun e => absurd e (by decide)⟩ )
  · have t3 := eq_no c1
    refine ur_ldI rfl rfl ?_
    refine ur_push rfl ?_
    refine ur_if2 rfl (fun c4 => ?_) (fun c4 => ?_)
    · have t5 := ne_to c4
      refine ur_push rfl ?_
      exact ur_ret rfl rfl (hQ _ ⟨false, rfl, fun e => absurd e (by decide), fun _ => by omega⟩ )
    · have t6 := ne_no c4
      refine ur_push rfl ?_
      refine ur_go rfl ?_
      exact ur_ret rfl rfl (hQ _ ⟨true, rfl, fun _ => by omega, fun e => absurd e (by decide)⟩ )

set_option maxRecDepth 20000 in
set_option maxHeartbeats 4000000 in
theorem sd_X12_word {d kc ks : Nat} {h0 : aH} {Q : Option aV → aH → Prop} (hO0 : OK h0) (hX0 : SX h0) (a1 : Int32) (a2 : Int32) (a3 : Int32) (hQ : ∀ r h', (∃ x : Int32, r = some (.inl x) ∧ (¬ ((0 ≤ a1.toInt ∧ a1.toInt / 10000 ≤ 8 ∧ a1.toInt / 100 % 100 ≤ 7 ∧ 0 ≤ a2.toInt ∧ a2.toInt ≤ 400) ∧ (a1.toInt % 100 = 99 ∨ (a1.toInt % 100 ≤ 19 ∧ gI h0 91 (a1.toInt % 100) ≠ 0)) ∧ ((a1.toInt / 100 % 100 = 1 ∨ a1.toInt / 100 % 100 = 6 → 0 ≤ a3.toInt ∧ a3.toInt ≤ 23) ∧ (a1.toInt / 100 % 100 = 2 ∨ a1.toInt / 100 % 100 = 7 → 0 ≤ a3.toInt ∧ a3.toInt ≤ 1) ∧ (a1.toInt / 100 % 100 = 3 → 0 ≤ a3.toInt ∧ a3.toInt < fI h0 38))) ∧ x.toInt = -1 ∧ fI h' 38 = fI h0 38 ∨ ((0 ≤ a1.toInt ∧ a1.toInt / 10000 ≤ 8 ∧ a1.toInt / 100 % 100 ≤ 7 ∧ 0 ≤ a2.toInt ∧ a2.toInt ≤ 400) ∧ (a1.toInt % 100 = 99 ∨ (a1.toInt % 100 ≤ 19 ∧ gI h0 91 (a1.toInt % 100) ≠ 0)) ∧ ((a1.toInt / 100 % 100 = 1 ∨ a1.toInt / 100 % 100 = 6 → 0 ≤ a3.toInt ∧ a3.toInt ≤ 23) ∧ (a1.toInt / 100 % 100 = 2 ∨ a1.toInt / 100 % 100 = 7 → 0 ≤ a3.toInt ∧ a3.toInt ≤ 1) ∧ (a1.toInt / 100 % 100 = 3 → 0 ≤ a3.toInt ∧ a3.toInt < fI h0 38))) ∧ 150 ≤ fI h0 38 ∧ x.toInt = -3 ∧ fI h' 38 = fI h0 38 ∨ ((0 ≤ a1.toInt ∧ a1.toInt / 10000 ≤ 8 ∧ a1.toInt / 100 % 100 ≤ 7 ∧ 0 ≤ a2.toInt ∧ a2.toInt ≤ 400) ∧ (a1.toInt % 100 = 99 ∨ (a1.toInt % 100 ≤ 19 ∧ gI h0 91 (a1.toInt % 100) ≠ 0)) ∧ ((a1.toInt / 100 % 100 = 1 ∨ a1.toInt / 100 % 100 = 6 → 0 ≤ a3.toInt ∧ a3.toInt ≤ 23) ∧ (a1.toInt / 100 % 100 = 2 ∨ a1.toInt / 100 % 100 = 7 → 0 ≤ a3.toInt ∧ a3.toInt ≤ 1) ∧ (a1.toInt / 100 % 100 = 3 → 0 ≤ a3.toInt ∧ a3.toInt < fI h0 38))) ∧ fI h0 38 < 150 ∧ x.toInt = fI h0 38 ∧ fI h' 38 = fI h0 38 + 1)) → OK h' → un [96, 97, 98, 99, 100, 101, 102, 103, 7938] h0 h' → (fI h' 38 ≤ fI h0 38 + 1) → (SX h') → Q r h') : uCall Mt (d + 3) 239 [(.inr (.inr (some 69))), (.inl a1), (.inl a2), (.inl a3)] h0 kc ks Q := by
  have l_m3 : ((-3) : Int32).toInt = -3 := by decide
  have l_m1 : ((-1) : Int32).toInt = -1 := by decide
  have l_0 : ((0) : Int32).toInt = 0 := by decide
  have l_1 : ((1) : Int32).toInt = 1 := by decide
  have l_3 : ((3) : Int32).toInt = 3 := by decide
  have l_7 : ((7) : Int32).toInt = 7 := by decide
  have l_8 : ((8) : Int32).toInt = 8 := by decide
  have l_20 : ((20) : Int32).toInt = 20 := by decide
  have l_23 : ((23) : Int32).toInt = 23 := by decide
  have l_99 : ((99) : Int32).toInt = 99 := by decide
  have l_100 : ((100) : Int32).toInt = 100 := by decide
  have l_150 : ((150) : Int32).toInt = 150 := by decide
  have l_400 : ((400) : Int32).toInt = 400 := by decide
  have l_10000 : ((10000) : Int32).toInt = 10000 := by decide
  refine uc_ink [some (.inr (.inr (some 69))), some (.inl a1), some (.inl a2), some (.inl a3), none, none, none] mt_239 (Nat.le_of_ble_eq_true rfl) rfl ?_
  obtain ⟨fs1, hc2⟩ := hO0.mod
  obtain ⟨f3, p4, t5⟩ := mf_38 hO0 hc2
  have t6 := fI_of hc2 p4
  refine ur_ldI rfl rfl ?_
  refine ur_push rfl ?_
  refine ur_divV rfl (by decide) (fun x7 e8 => ?_)
  have z9 := any_r a1
  have t10 : 0 ≤ a1.toInt → x7.toInt = a1.toInt / 10000 := fun q => ti_div e8 l_10000 (by decide) q
  refine ur_svIk [some (.inr (.inr (some 69))), some (.inl a1), some (.inl a2), some (.inl a3), some (.inl x7), none, none] rfl rfl ?_
  refine ur_ldI rfl rfl ?_
  refine ur_push rfl ?_
  refine ur_divV rfl (by decide) (fun x11 e12 => ?_)
  have t13 : 0 ≤ a1.toInt → x11.toInt = a1.toInt / 100 := fun q => ti_div e12 l_100 (by decide) q
  refine ur_push rfl ?_
  refine ur_divV rfl (by decide) (fun x14 e15 => ?_)
  have z16 := any_r x11
  have t17 : 0 ≤ x11.toInt → x14.toInt = x11.toInt % 100 := fun q => ti_rem e15 l_100 (by decide) q
  refine ur_svIk [some (.inr (.inr (some 69))), some (.inl a1), some (.inl a2), some (.inl a3), some (.inl x7), some (.inl x14), none] rfl rfl ?_
  refine ur_ldI rfl rfl ?_
  refine ur_push rfl ?_
  refine ur_divV rfl (by decide) (fun x18 e19 => ?_)
  have t20 : 0 ≤ a1.toInt → x18.toInt = a1.toInt % 100 := fun q => ti_rem e19 l_100 (by decide) q
  refine ur_svIk [some (.inr (.inr (some 69))), some (.inl a1), some (.inl a2), some (.inl a3), some (.inl x7), some (.inl x14), some (.inl x18)] rfl rfl ?_
  refine ur_ldI rfl rfl ?_
  have t21 : 0 ≤ a1.toInt → gI h0 91 (a1.toInt % 100) = gI h0 91 x18.toInt := fun q => by rw [show a1.toInt % 100 = x18.toInt by omega]
  refine ur_if1 rfl (fun c22 => ?_) (fun c22 => ?_)
  · have t23 := lt_to c22
    refine ur_push rfl ?_
    exact ur_ret rfl rfl (hQ _ _ ⟨_, rfl, Or.inl ⟨fun q => by omega, by omega, by omega⟩⟩ hO0 un.rf (by omega) hX0)
  · have t24 := lt_no c22
    refine ur_ldI rfl rfl ?_
    refine ur_callv rfl rfl (Nat.le_of_ble_eq_true rfl) (Nat.le_of_ble_eq_true rfl) rfl (sq_isPpl _ _) ?_
    refine ur_eqB rfl (fun c27 => ?_) (fun c27 => ?_)
    · have t28 := wi_noL c27 l_0 l_8
      refine ur_push rfl ?_
      exact ur_ret rfl rfl (hQ _ _ ⟨_, rfl, Or.inl ⟨fun q => by omega, by omega, by omega⟩⟩ hO0 un.rf (by omega) hX0)
    · have t29 := wi_toL c27 l_0 l_8
      refine ur_ldI rfl rfl ?_
      refine ur_push rfl ?_
      refine ur_push rfl ?_
      refine ur_callv rfl rfl (Nat.le_of_ble_eq_true rfl) (Nat.le_of_ble_eq_true rfl) rfl (sp_in _ _ _ _ _) ?_
      refine ur_eqB rfl (fun c32 => ?_) (fun c32 => ?_)
      · have t33 := wi_noL c32 l_0 l_7
        refine ur_push rfl ?_
        exact ur_ret rfl rfl (hQ _ _ ⟨_, rfl, Or.inl ⟨fun q => by omega, by omega, by omega⟩⟩ hO0 un.rf (by omega) hX0)
      · have t34 := wi_toL c32 l_0 l_7
        refine ur_ldI rfl rfl ?_
        refine ur_push rfl ?_
        refine ur_if2 rfl (fun c35 => ?_) (fun c35 => ?_)
        · have t36 := eq_to c35
          refine ur_ldI rfl rfl ?_
          refine ur_push rfl ?_
          refine ur_push rfl ?_
          refine ur_callv rfl rfl (Nat.le_of_ble_eq_true rfl) (Nat.le_of_ble_eq_true rfl) rfl (sp_in _ _ _ _ _) ?_
          refine ur_neB rfl (fun c39 => ?_) (fun c39 => ?_)
          · have t40 := wi_toL c39 l_0 l_400
            refine ur_ldI rfl rfl ?_
            refine ur_inl rfl rfl (Nat.le_of_ble_eq_true rfl) (Nat.le_of_ble_eq_true rfl) (sd_X12_isLodged hO0 _ (fun w41 hr42 => ?_))
            obtain ⟨b43, rfl, t44, t45⟩ := hr42
            show uRun _ (uCall Mt _) _ 87 (_, [(.inl (bi b43))], _, _, _)
            refine ur_eqB rfl (fun c46 => ?_) (fun c46 => ?_)
            · have t47 := t45 c46
              refine ur_ldI rfl rfl ?_
              refine ur_inl rfl rfl (Nat.le_of_ble_eq_true rfl) (Nat.le_of_ble_eq_true rfl) (sd_X12_isSided hO0 _ (fun w48 hr49 => ?_))
              obtain ⟨b50, rfl, t51, t52⟩ := hr49
              show uRun _ (uCall Mt _) _ 105 (_, [(.inl (bi b50))], _, _, _)
              refine ur_eqB rfl (fun c53 => ?_) (fun c53 => ?_)
              · have t54 := t52 c53
                refine ur_ldI rfl rfl ?_
                refine ur_push rfl ?_
                refine ur_if2 rfl (fun c55 => ?_) (fun c55 => ?_)
                · have t56 := ne_to c55
                  refine ur_ldA rfl rfl ?_
                  refine ur_get rfl hc2 p4 ?_
                  refine ur_push rfl ?_
                  refine ur_if2 rfl (fun c57 => ?_) (fun c57 => ?_)
                  · have t58 := ne_to c57
                    refine ur_ldA rfl rfl ?_
                    refine ur_ldI rfl rfl ?_
                    refine ur_ldI rfl rfl ?_
                    refine ur_ldA rfl rfl ?_
                    obtain ⟨f59, p60⟩ := mf_47 hO0 hc2
                    refine ur_get rfl hc2 p60 ?_
                    refine ur_ldA rfl rfl ?_
                    obtain ⟨f61, p62⟩ := mf_48 hO0 hc2
                    refine ur_get rfl hc2 p62 ?_
                    refine ur_ldA rfl rfl ?_
                    obtain ⟨f63, p64⟩ := mf_49 hO0 hc2
                    refine ur_get rfl hc2 p64 ?_
                    refine ur_ldI rfl rfl ?_
                    refine ur_push rfl ?_
                    refine ur_if2 rfl (fun c65 => ?_) (fun c65 => ?_)
                    · have t66 := ne_to c65
                      exfalso
                      omega
                    · have t67 := ne_no c65
                      refine ur_push rfl ?_
                      refine ur_go rfl ?_
                      refine ur_ldI rfl rfl ?_
                      refine ur_ldI rfl rfl ?_
                      refine ur_inl rfl (rcv_of hc2) (Nat.le_of_ble_eq_true rfl) (Nat.le_of_ble_eq_true rfl) (sf_X12_newWord hO0 hX0 _ (by show 0 ≤ x14.toInt ∧ x14.toInt ≤ 7; omega) _ (by show 0 ≤ x7.toInt ∧ x7.toInt ≤ 8; omega) _ _ _ _ (by show -1 ≤ ((-1) : Int32).toInt ∧ ((-1) : Int32).toInt ≤ 19; omega) _ _ (by omega) (by omega) (by omega) (by omega) (fun w68 h72 hr69 hO72 hv72 hp70 hp71 => ?_))
                      have hu72 := hv72
                      obtain ⟨x73, rfl⟩ := hr69
                      show uRun _ (uCall Mt _) _ 181 (_, [(.inl x73)], _, _, _)
                      obtain ⟨fs74, hc75⟩ := hO72.mod
                      obtain ⟨f76, p77, t78⟩ := mf_38 hO72 hc75
                      have t79 := fI_of hc75 p77
                      exact ur_ret rfl rfl (hQ _ _ ⟨_, rfl, Or.inr (Or.inr ⟨⟨⟨by omega, by omega, by omega, by omega, by omega⟩, by omega, fun q => by omega, fun q => by omega, fun q => by omega⟩, by omega, by omega, by omega⟩)⟩ hO72 hu72 (by omega) hp71)
                  · have t80 := ne_no c57
                    refine ur_push rfl ?_
                    exact ur_ret rfl rfl (hQ _ _ ⟨_, rfl, Or.inr (Or.inl ⟨⟨⟨by omega, by omega, by omega, by omega, by omega⟩, by omega, fun q => by omega, fun q => by omega, fun q => by omega⟩, by omega, by omega, by omega⟩)⟩ hO0 un.rf (by omega) hX0)
                · have t81 := ne_no c55
                  refine ur_ldA rfl rfl ?_
                  refine ur_ldI rfl rfl ?_
                  refine ur_inl rfl (rcv_of hc2) (Nat.le_of_ble_eq_true rfl) (Nat.le_of_ble_eq_true rfl) (sd_X12_isWord hO0 _ (fun w82 hr83 => ?_))
                  obtain ⟨b84, rfl, t85, t86⟩ := hr83
                  show uRun _ (uCall Mt _) _ 128 (_, [(.inl (bi b84))], _, _, _)
                  refine ur_neB rfl (fun c87 => ?_) (fun c87 => ?_)
                  · have t88 := t85 c87
                    refine ur_ldA rfl rfl ?_
                    refine ur_get rfl hc2 p4 ?_
                    refine ur_push rfl ?_
                    refine ur_if2 rfl (fun c89 => ?_) (fun c89 => ?_)
                    · have t90 := ne_to c89
                      refine ur_ldA rfl rfl ?_
                      refine ur_ldI rfl rfl ?_
                      refine ur_ldI rfl rfl ?_
                      refine ur_ldA rfl rfl ?_
                      obtain ⟨f91, p92⟩ := mf_47 hO0 hc2
                      refine ur_get rfl hc2 p92 ?_
                      refine ur_ldA rfl rfl ?_
                      obtain ⟨f93, p94⟩ := mf_48 hO0 hc2
                      refine ur_get rfl hc2 p94 ?_
                      refine ur_ldA rfl rfl ?_
                      obtain ⟨f95, p96⟩ := mf_49 hO0 hc2
                      refine ur_get rfl hc2 p96 ?_
                      refine ur_ldI rfl rfl ?_
                      refine ur_push rfl ?_
                      refine ur_if2 rfl (fun c97 => ?_) (fun c97 => ?_)
                      · have t98 := ne_to c97
                        exfalso
                        omega
                      · have t99 := ne_no c97
                        refine ur_push rfl ?_
                        refine ur_go rfl ?_
                        refine ur_ldI rfl rfl ?_
                        refine ur_ldI rfl rfl ?_
                        refine ur_inl rfl (rcv_of hc2) (Nat.le_of_ble_eq_true rfl) (Nat.le_of_ble_eq_true rfl) (sf_X12_newWord hO0 hX0 _ (by show 0 ≤ x14.toInt ∧ x14.toInt ≤ 7; omega) _ (by show 0 ≤ x7.toInt ∧ x7.toInt ≤ 8; omega) _ _ _ _ (by show -1 ≤ ((-1) : Int32).toInt ∧ ((-1) : Int32).toInt ≤ 19; omega) _ _ (by omega) (by omega) (by omega) (by omega) (fun w100 h104 hr101 hO104 hv104 hp102 hp103 => ?_))
                        have hu104 := hv104
                        obtain ⟨x105, rfl⟩ := hr101
                        show uRun _ (uCall Mt _) _ 181 (_, [(.inl x105)], _, _, _)
                        obtain ⟨fs106, hc107⟩ := hO104.mod
                        obtain ⟨f108, p109, t110⟩ := mf_38 hO104 hc107
                        have t111 := fI_of hc107 p109
                        exact ur_ret rfl rfl (hQ _ _ ⟨_, rfl, Or.inr (Or.inr ⟨⟨⟨by omega, by omega, by omega, by omega, by omega⟩, by omega, fun q => by omega, fun q => by omega, fun q => by omega⟩, by omega, by omega, by omega⟩)⟩ hO104 hu104 (by omega) hp103)
                    · have t112 := ne_no c89
                      refine ur_push rfl ?_
                      exact ur_ret rfl rfl (hQ _ _ ⟨_, rfl, Or.inr (Or.inl ⟨⟨⟨by omega, by omega, by omega, by omega, by omega⟩, by omega, fun q => by omega, fun q => by omega, fun q => by omega⟩, by omega, by omega, by omega⟩)⟩ hO0 un.rf (by omega) hX0)
                  · have t113 := t86 c87
                    refine ur_push rfl ?_
                    exact ur_ret rfl rfl (hQ _ _ ⟨_, rfl, Or.inl ⟨fun q => by omega, by omega, by omega⟩⟩ hO0 un.rf (by omega) hX0)
              · have t114 := t51 c53
                refine ur_ldI rfl rfl ?_
                refine ur_push rfl ?_
                refine ur_push rfl ?_
                refine ur_callv rfl rfl (Nat.le_of_ble_eq_true rfl) (Nat.le_of_ble_eq_true rfl) rfl (sp_in _ _ _ _ _) ?_
                refine ur_eqB rfl (fun c117 => ?_) (fun c117 => ?_)
                · have t118 := wi_noL c117 l_0 l_1
                  refine ur_push rfl ?_
                  exact ur_ret rfl rfl (hQ _ _ ⟨_, rfl, Or.inl ⟨fun q => by omega, by omega, by omega⟩⟩ hO0 un.rf (by omega) hX0)
                · have t119 := wi_toL c117 l_0 l_1
                  refine ur_ldI rfl rfl ?_
                  refine ur_push rfl ?_
                  refine ur_if2 rfl (fun c120 => ?_) (fun c120 => ?_)
                  · have t121 := ne_to c120
                    refine ur_ldA rfl rfl ?_
                    refine ur_get rfl hc2 p4 ?_
                    refine ur_push rfl ?_
                    refine ur_if2 rfl (fun c122 => ?_) (fun c122 => ?_)
                    · have t123 := ne_to c122
                      refine ur_ldA rfl rfl ?_
                      refine ur_ldI rfl rfl ?_
                      refine ur_ldI rfl rfl ?_
                      refine ur_ldA rfl rfl ?_
                      obtain ⟨f124, p125⟩ := mf_47 hO0 hc2
                      refine ur_get rfl hc2 p125 ?_
                      refine ur_ldA rfl rfl ?_
                      obtain ⟨f126, p127⟩ := mf_48 hO0 hc2
                      refine ur_get rfl hc2 p127 ?_
                      refine ur_ldA rfl rfl ?_
                      obtain ⟨f128, p129⟩ := mf_49 hO0 hc2
                      refine ur_get rfl hc2 p129 ?_
                      refine ur_ldI rfl rfl ?_
                      refine ur_push rfl ?_
                      refine ur_if2 rfl (fun c130 => ?_) (fun c130 => ?_)
                      · have t131 := ne_to c130
                        exfalso
                        omega
                      · have t132 := ne_no c130
                        refine ur_push rfl ?_
                        refine ur_go rfl ?_
                        refine ur_ldI rfl rfl ?_
                        refine ur_ldI rfl rfl ?_
                        refine ur_inl rfl (rcv_of hc2) (Nat.le_of_ble_eq_true rfl) (Nat.le_of_ble_eq_true rfl) (sf_X12_newWord hO0 hX0 _ (by show 0 ≤ x14.toInt ∧ x14.toInt ≤ 7; omega) _ (by show 0 ≤ x7.toInt ∧ x7.toInt ≤ 8; omega) _ _ _ _ (by show -1 ≤ ((-1) : Int32).toInt ∧ ((-1) : Int32).toInt ≤ 19; omega) _ _ (by omega) (by omega) (by omega) (by omega) (fun w133 h137 hr134 hO137 hv137 hp135 hp136 => ?_))
                        have hu137 := hv137
                        obtain ⟨x138, rfl⟩ := hr134
                        show uRun _ (uCall Mt _) _ 181 (_, [(.inl x138)], _, _, _)
                        obtain ⟨fs139, hc140⟩ := hO137.mod
                        obtain ⟨f141, p142, t143⟩ := mf_38 hO137 hc140
                        have t144 := fI_of hc140 p142
                        exact ur_ret rfl rfl (hQ _ _ ⟨_, rfl, Or.inr (Or.inr ⟨⟨⟨by omega, by omega, by omega, by omega, by omega⟩, by omega, fun q => by omega, fun q => by omega, fun q => by omega⟩, by omega, by omega, by omega⟩)⟩ hO137 hu137 (by omega) hp136)
                    · have t145 := ne_no c122
                      refine ur_push rfl ?_
                      exact ur_ret rfl rfl (hQ _ _ ⟨_, rfl, Or.inr (Or.inl ⟨⟨⟨by omega, by omega, by omega, by omega, by omega⟩, by omega, fun q => by omega, fun q => by omega, fun q => by omega⟩, by omega, by omega, by omega⟩)⟩ hO0 un.rf (by omega) hX0)
                  · have t146 := ne_no c120
                    refine ur_ldA rfl rfl ?_
                    refine ur_ldI rfl rfl ?_
                    refine ur_inl rfl (rcv_of hc2) (Nat.le_of_ble_eq_true rfl) (Nat.le_of_ble_eq_true rfl) (sd_X12_isWord hO0 _ (fun w147 hr148 => ?_))
                    obtain ⟨b149, rfl, t150, t151⟩ := hr148
                    show uRun _ (uCall Mt _) _ 128 (_, [(.inl (bi b149))], _, _, _)
                    refine ur_neB rfl (fun c152 => ?_) (fun c152 => ?_)
                    · have t153 := t150 c152
                      refine ur_ldA rfl rfl ?_
                      refine ur_get rfl hc2 p4 ?_
                      refine ur_push rfl ?_
                      refine ur_if2 rfl (fun c154 => ?_) (fun c154 => ?_)
                      · have t155 := ne_to c154
                        refine ur_ldA rfl rfl ?_
                        refine ur_ldI rfl rfl ?_
                        refine ur_ldI rfl rfl ?_
                        refine ur_ldA rfl rfl ?_
                        obtain ⟨f156, p157⟩ := mf_47 hO0 hc2
                        refine ur_get rfl hc2 p157 ?_
                        refine ur_ldA rfl rfl ?_
                        obtain ⟨f158, p159⟩ := mf_48 hO0 hc2
                        refine ur_get rfl hc2 p159 ?_
                        refine ur_ldA rfl rfl ?_
                        obtain ⟨f160, p161⟩ := mf_49 hO0 hc2
                        refine ur_get rfl hc2 p161 ?_
                        refine ur_ldI rfl rfl ?_
                        refine ur_push rfl ?_
                        refine ur_if2 rfl (fun c162 => ?_) (fun c162 => ?_)
                        · have t163 := ne_to c162
                          exfalso
                          omega
                        · have t164 := ne_no c162
                          refine ur_push rfl ?_
                          refine ur_go rfl ?_
                          refine ur_ldI rfl rfl ?_
                          refine ur_ldI rfl rfl ?_
                          refine ur_inl rfl (rcv_of hc2) (Nat.le_of_ble_eq_true rfl) (Nat.le_of_ble_eq_true rfl) (sf_X12_newWord hO0 hX0 _ (by show 0 ≤ x14.toInt ∧ x14.toInt ≤ 7; omega) _ (by show 0 ≤ x7.toInt ∧ x7.toInt ≤ 8; omega) _ _ _ _ (by show -1 ≤ ((-1) : Int32).toInt ∧ ((-1) : Int32).toInt ≤ 19; omega) _ _ (by omega) (by omega) (by omega) (by omega) (fun w165 h169 hr166 hO169 hv169 hp167 hp168 => ?_))
                          have hu169 := hv169
                          obtain ⟨x170, rfl⟩ := hr166
                          show uRun _ (uCall Mt _) _ 181 (_, [(.inl x170)], _, _, _)
                          obtain ⟨fs171, hc172⟩ := hO169.mod
                          obtain ⟨f173, p174, t175⟩ := mf_38 hO169 hc172
                          have t176 := fI_of hc172 p174
                          exact ur_ret rfl rfl (hQ _ _ ⟨_, rfl, Or.inr (Or.inr ⟨⟨⟨by omega, by omega, by omega, by omega, by omega⟩, by omega, fun q => by omega, fun q => by omega, fun q => by omega⟩, by omega, by omega, by omega⟩)⟩ hO169 hu169 (by omega) hp168)
                      · have t177 := ne_no c154
                        refine ur_push rfl ?_
                        exact ur_ret rfl rfl (hQ _ _ ⟨_, rfl, Or.inr (Or.inl ⟨⟨⟨by omega, by omega, by omega, by omega, by omega⟩, by omega, fun q => by omega, fun q => by omega, fun q => by omega⟩, by omega, by omega, by omega⟩)⟩ hO0 un.rf (by omega) hX0)
                    · have t178 := t151 c152
                      refine ur_push rfl ?_
                      exact ur_ret rfl rfl (hQ _ _ ⟨_, rfl, Or.inl ⟨fun q => by omega, by omega, by omega⟩⟩ hO0 un.rf (by omega) hX0)
            · have t179 := t44 c46
              refine ur_ldI rfl rfl ?_
              refine ur_push rfl ?_
              refine ur_push rfl ?_
              refine ur_callv rfl rfl (Nat.le_of_ble_eq_true rfl) (Nat.le_of_ble_eq_true rfl) rfl (sp_in _ _ _ _ _) ?_
              refine ur_eqB rfl (fun c182 => ?_) (fun c182 => ?_)
              · have t183 := wi_noL c182 l_0 l_23
                refine ur_push rfl ?_
                exact ur_ret rfl rfl (hQ _ _ ⟨_, rfl, Or.inl ⟨fun q => by omega, by omega, by omega⟩⟩ hO0 un.rf (by omega) hX0)
              · have t184 := wi_toL c182 l_0 l_23
                refine ur_ldI rfl rfl ?_
                refine ur_inl rfl rfl (Nat.le_of_ble_eq_true rfl) (Nat.le_of_ble_eq_true rfl) (sd_X12_isSided hO0 _ (fun w185 hr186 => ?_))
                obtain ⟨b187, rfl, t188, t189⟩ := hr186
                show uRun _ (uCall Mt _) _ 105 (_, [(.inl (bi b187))], _, _, _)
                refine ur_eqB rfl (fun c190 => ?_) (fun c190 => ?_)
                · have t191 := t189 c190
                  refine ur_ldI rfl rfl ?_
                  refine ur_push rfl ?_
                  refine ur_if2 rfl (fun c192 => ?_) (fun c192 => ?_)
                  · have t193 := ne_to c192
                    refine ur_ldA rfl rfl ?_
                    refine ur_get rfl hc2 p4 ?_
                    refine ur_push rfl ?_
                    refine ur_if2 rfl (fun c194 => ?_) (fun c194 => ?_)
                    · have t195 := ne_to c194
                      refine ur_ldA rfl rfl ?_
                      refine ur_ldI rfl rfl ?_
                      refine ur_ldI rfl rfl ?_
                      refine ur_ldA rfl rfl ?_
                      obtain ⟨f196, p197⟩ := mf_47 hO0 hc2
                      refine ur_get rfl hc2 p197 ?_
                      refine ur_ldA rfl rfl ?_
                      obtain ⟨f198, p199⟩ := mf_48 hO0 hc2
                      refine ur_get rfl hc2 p199 ?_
                      refine ur_ldA rfl rfl ?_
                      obtain ⟨f200, p201⟩ := mf_49 hO0 hc2
                      refine ur_get rfl hc2 p201 ?_
                      refine ur_ldI rfl rfl ?_
                      refine ur_push rfl ?_
                      refine ur_if2 rfl (fun c202 => ?_) (fun c202 => ?_)
                      · have t203 := ne_to c202
                        exfalso
                        omega
                      · have t204 := ne_no c202
                        refine ur_push rfl ?_
                        refine ur_go rfl ?_
                        refine ur_ldI rfl rfl ?_
                        refine ur_ldI rfl rfl ?_
                        refine ur_inl rfl (rcv_of hc2) (Nat.le_of_ble_eq_true rfl) (Nat.le_of_ble_eq_true rfl) (sf_X12_newWord hO0 hX0 _ (by show 0 ≤ x14.toInt ∧ x14.toInt ≤ 7; omega) _ (by show 0 ≤ x7.toInt ∧ x7.toInt ≤ 8; omega) _ _ _ _ (by show -1 ≤ ((-1) : Int32).toInt ∧ ((-1) : Int32).toInt ≤ 19; omega) _ _ (by omega) (by omega) (by omega) (by omega) (fun w205 h209 hr206 hO209 hv209 hp207 hp208 => ?_))
                        have hu209 := hv209
                        obtain ⟨x210, rfl⟩ := hr206
                        show uRun _ (uCall Mt _) _ 181 (_, [(.inl x210)], _, _, _)
                        obtain ⟨fs211, hc212⟩ := hO209.mod
                        obtain ⟨f213, p214, t215⟩ := mf_38 hO209 hc212
                        have t216 := fI_of hc212 p214
                        exact ur_ret rfl rfl (hQ _ _ ⟨_, rfl, Or.inr (Or.inr ⟨⟨⟨by omega, by omega, by omega, by omega, by omega⟩, by omega, fun q => by omega, fun q => by omega, fun q => by omega⟩, by omega, by omega, by omega⟩)⟩ hO209 hu209 (by omega) hp208)
                    · have t217 := ne_no c194
                      refine ur_push rfl ?_
                      exact ur_ret rfl rfl (hQ _ _ ⟨_, rfl, Or.inr (Or.inl ⟨⟨⟨by omega, by omega, by omega, by omega, by omega⟩, by omega, fun q => by omega, fun q => by omega, fun q => by omega⟩, by omega, by omega, by omega⟩)⟩ hO0 un.rf (by omega) hX0)
                  · have t218 := ne_no c192
                    refine ur_ldA rfl rfl ?_
                    refine ur_ldI rfl rfl ?_
                    refine ur_inl rfl (rcv_of hc2) (Nat.le_of_ble_eq_true rfl) (Nat.le_of_ble_eq_true rfl) (sd_X12_isWord hO0 _ (fun w219 hr220 => ?_))
                    obtain ⟨b221, rfl, t222, t223⟩ := hr220
                    show uRun _ (uCall Mt _) _ 128 (_, [(.inl (bi b221))], _, _, _)
                    refine ur_neB rfl (fun c224 => ?_) (fun c224 => ?_)
                    · have t225 := t222 c224
                      refine ur_ldA rfl rfl ?_
                      refine ur_get rfl hc2 p4 ?_
                      refine ur_push rfl ?_
                      refine ur_if2 rfl (fun c226 => ?_) (fun c226 => ?_)
                      · have t227 := ne_to c226
                        refine ur_ldA rfl rfl ?_
                        refine ur_ldI rfl rfl ?_
                        refine ur_ldI rfl rfl ?_
                        refine ur_ldA rfl rfl ?_
                        obtain ⟨f228, p229⟩ := mf_47 hO0 hc2
                        refine ur_get rfl hc2 p229 ?_
                        refine ur_ldA rfl rfl ?_
                        obtain ⟨f230, p231⟩ := mf_48 hO0 hc2
                        refine ur_get rfl hc2 p231 ?_
                        refine ur_ldA rfl rfl ?_
                        obtain ⟨f232, p233⟩ := mf_49 hO0 hc2
                        refine ur_get rfl hc2 p233 ?_
                        refine ur_ldI rfl rfl ?_
                        refine ur_push rfl ?_
                        refine ur_if2 rfl (fun c234 => ?_) (fun c234 => ?_)
                        · have t235 := ne_to c234
                          exfalso
                          omega
                        · have t236 := ne_no c234
                          refine ur_push rfl ?_
                          refine ur_go rfl ?_
                          refine ur_ldI rfl rfl ?_
                          refine ur_ldI rfl rfl ?_
                          refine ur_inl rfl (rcv_of hc2) (Nat.le_of_ble_eq_true rfl) (Nat.le_of_ble_eq_true rfl) (sf_X12_newWord hO0 hX0 _ (by show 0 ≤ x14.toInt ∧ x14.toInt ≤ 7; omega) _ (by show 0 ≤ x7.toInt ∧ x7.toInt ≤ 8; omega) _ _ _ _ (by show -1 ≤ ((-1) : Int32).toInt ∧ ((-1) : Int32).toInt ≤ 19; omega) _ _ (by omega) (by omega) (by omega) (by omega) (fun w237 h241 hr238 hO241 hv241 hp239 hp240 => ?_))
                          have hu241 := hv241
                          obtain ⟨x242, rfl⟩ := hr238
                          show uRun _ (uCall Mt _) _ 181 (_, [(.inl x242)], _, _, _)
                          obtain ⟨fs243, hc244⟩ := hO241.mod
                          obtain ⟨f245, p246, t247⟩ := mf_38 hO241 hc244
                          have t248 := fI_of hc244 p246
                          exact ur_ret rfl rfl (hQ _ _ ⟨_, rfl, Or.inr (Or.inr ⟨⟨⟨by omega, by omega, by omega, by omega, by omega⟩, by omega, fun q => by omega, fun q => by omega, fun q => by omega⟩, by omega, by omega, by omega⟩)⟩ hO241 hu241 (by omega) hp240)
                      · have t249 := ne_no c226
                        refine ur_push rfl ?_
                        exact ur_ret rfl rfl (hQ _ _ ⟨_, rfl, Or.inr (Or.inl ⟨⟨⟨by omega, by omega, by omega, by omega, by omega⟩, by omega, fun q => by omega, fun q => by omega, fun q => by omega⟩, by omega, by omega, by omega⟩)⟩ hO0 un.rf (by omega) hX0)
                    · have t250 := t223 c224
                      refine ur_push rfl ?_
                      exact ur_ret rfl rfl (hQ _ _ ⟨_, rfl, Or.inl ⟨fun q => by omega, by omega, by omega⟩⟩ hO0 un.rf (by omega) hX0)
                · have t251 := t188 c190
                  refine ur_ldI rfl rfl ?_
                  refine ur_push rfl ?_
                  refine ur_push rfl ?_
                  refine ur_callv rfl rfl (Nat.le_of_ble_eq_true rfl) (Nat.le_of_ble_eq_true rfl) rfl (sp_in _ _ _ _ _) ?_
                  refine ur_eqB rfl (fun c254 => ?_) (fun c254 => ?_)
                  · have t255 := wi_noL c254 l_0 l_1
                    refine ur_push rfl ?_
                    exact ur_ret rfl rfl (hQ _ _ ⟨_, rfl, Or.inl ⟨fun q => by omega, by omega, by omega⟩⟩ hO0 un.rf (by omega) hX0)
                  · have t256 := wi_toL c254 l_0 l_1
                    refine ur_ldI rfl rfl ?_
                    refine ur_push rfl ?_
                    refine ur_if2 rfl (fun c257 => ?_) (fun c257 => ?_)
                    · have t258 := ne_to c257
                      refine ur_ldA rfl rfl ?_
                      refine ur_get rfl hc2 p4 ?_
                      refine ur_push rfl ?_
                      refine ur_if2 rfl (fun c259 => ?_) (fun c259 => ?_)
                      · have t260 := ne_to c259
                        refine ur_ldA rfl rfl ?_
                        refine ur_ldI rfl rfl ?_
                        refine ur_ldI rfl rfl ?_
                        refine ur_ldA rfl rfl ?_
                        obtain ⟨f261, p262⟩ := mf_47 hO0 hc2
                        refine ur_get rfl hc2 p262 ?_
                        refine ur_ldA rfl rfl ?_
                        obtain ⟨f263, p264⟩ := mf_48 hO0 hc2
                        refine ur_get rfl hc2 p264 ?_
                        refine ur_ldA rfl rfl ?_
                        obtain ⟨f265, p266⟩ := mf_49 hO0 hc2
                        refine ur_get rfl hc2 p266 ?_
                        refine ur_ldI rfl rfl ?_
                        refine ur_push rfl ?_
                        refine ur_if2 rfl (fun c267 => ?_) (fun c267 => ?_)
                        · have t268 := ne_to c267
                          exfalso
                          omega
                        · have t269 := ne_no c267
                          refine ur_push rfl ?_
                          refine ur_go rfl ?_
                          refine ur_ldI rfl rfl ?_
                          refine ur_ldI rfl rfl ?_
                          refine ur_inl rfl (rcv_of hc2) (Nat.le_of_ble_eq_true rfl) (Nat.le_of_ble_eq_true rfl) (sf_X12_newWord hO0 hX0 _ (by show 0 ≤ x14.toInt ∧ x14.toInt ≤ 7; omega) _ (by show 0 ≤ x7.toInt ∧ x7.toInt ≤ 8; omega) _ _ _ _ (by show -1 ≤ ((-1) : Int32).toInt ∧ ((-1) : Int32).toInt ≤ 19; omega) _ _ (by omega) (by omega) (by omega) (by omega) (fun w270 h274 hr271 hO274 hv274 hp272 hp273 => ?_))
                          have hu274 := hv274
                          obtain ⟨x275, rfl⟩ := hr271
                          show uRun _ (uCall Mt _) _ 181 (_, [(.inl x275)], _, _, _)
                          obtain ⟨fs276, hc277⟩ := hO274.mod
                          obtain ⟨f278, p279, t280⟩ := mf_38 hO274 hc277
                          have t281 := fI_of hc277 p279
                          exact ur_ret rfl rfl (hQ _ _ ⟨_, rfl, Or.inr (Or.inr ⟨⟨⟨by omega, by omega, by omega, by omega, by omega⟩, by omega, fun q => by omega, fun q => by omega, fun q => by omega⟩, by omega, by omega, by omega⟩)⟩ hO274 hu274 (by omega) hp273)
                      · have t282 := ne_no c259
                        refine ur_push rfl ?_
                        exact ur_ret rfl rfl (hQ _ _ ⟨_, rfl, Or.inr (Or.inl ⟨⟨⟨by omega, by omega, by omega, by omega, by omega⟩, by omega, fun q => by omega, fun q => by omega, fun q => by omega⟩, by omega, by omega, by omega⟩)⟩ hO0 un.rf (by omega) hX0)
                    · have t283 := ne_no c257
                      refine ur_ldA rfl rfl ?_
                      refine ur_ldI rfl rfl ?_
                      refine ur_inl rfl (rcv_of hc2) (Nat.le_of_ble_eq_true rfl) (Nat.le_of_ble_eq_true rfl) (sd_X12_isWord hO0 _ (fun w284 hr285 => ?_))
                      obtain ⟨b286, rfl, t287, t288⟩ := hr285
                      show uRun _ (uCall Mt _) _ 128 (_, [(.inl (bi b286))], _, _, _)
                      refine ur_neB rfl (fun c289 => ?_) (fun c289 => ?_)
                      · have t290 := t287 c289
                        refine ur_ldA rfl rfl ?_
                        refine ur_get rfl hc2 p4 ?_
                        refine ur_push rfl ?_
                        refine ur_if2 rfl (fun c291 => ?_) (fun c291 => ?_)
                        · have t292 := ne_to c291
                          refine ur_ldA rfl rfl ?_
                          refine ur_ldI rfl rfl ?_
                          refine ur_ldI rfl rfl ?_
                          refine ur_ldA rfl rfl ?_
                          obtain ⟨f293, p294⟩ := mf_47 hO0 hc2
                          refine ur_get rfl hc2 p294 ?_
                          refine ur_ldA rfl rfl ?_
                          obtain ⟨f295, p296⟩ := mf_48 hO0 hc2
                          refine ur_get rfl hc2 p296 ?_
                          refine ur_ldA rfl rfl ?_
                          obtain ⟨f297, p298⟩ := mf_49 hO0 hc2
                          refine ur_get rfl hc2 p298 ?_
                          refine ur_ldI rfl rfl ?_
                          refine ur_push rfl ?_
                          refine ur_if2 rfl (fun c299 => ?_) (fun c299 => ?_)
                          · have t300 := ne_to c299
                            exfalso
                            omega
                          · have t301 := ne_no c299
                            refine ur_push rfl ?_
                            refine ur_go rfl ?_
                            refine ur_ldI rfl rfl ?_
                            refine ur_ldI rfl rfl ?_
                            refine ur_inl rfl (rcv_of hc2) (Nat.le_of_ble_eq_true rfl) (Nat.le_of_ble_eq_true rfl) (sf_X12_newWord hO0 hX0 _ (by show 0 ≤ x14.toInt ∧ x14.toInt ≤ 7; omega) _ (by show 0 ≤ x7.toInt ∧ x7.toInt ≤ 8; omega) _ _ _ _ (by show -1 ≤ ((-1) : Int32).toInt ∧ ((-1) : Int32).toInt ≤ 19; omega) _ _ (by omega) (by omega) (by omega) (by omega) (fun w302 h306 hr303 hO306 hv306 hp304 hp305 => ?_))
                            have hu306 := hv306
                            obtain ⟨x307, rfl⟩ := hr303
                            show uRun _ (uCall Mt _) _ 181 (_, [(.inl x307)], _, _, _)
                            obtain ⟨fs308, hc309⟩ := hO306.mod
                            obtain ⟨f310, p311, t312⟩ := mf_38 hO306 hc309
                            have t313 := fI_of hc309 p311
                            exact ur_ret rfl rfl (hQ _ _ ⟨_, rfl, Or.inr (Or.inr ⟨⟨⟨by omega, by omega, by omega, by omega, by omega⟩, by omega, fun q => by omega, fun q => by omega, fun q => by omega⟩, by omega, by omega, by omega⟩)⟩ hO306 hu306 (by omega) hp305)
                        · have t314 := ne_no c291
                          refine ur_push rfl ?_
                          exact ur_ret rfl rfl (hQ _ _ ⟨_, rfl, Or.inr (Or.inl ⟨⟨⟨by omega, by omega, by omega, by omega, by omega⟩, by omega, fun q => by omega, fun q => by omega, fun q => by omega⟩, by omega, by omega, by omega⟩)⟩ hO0 un.rf (by omega) hX0)
                      · have t315 := t288 c289
                        refine ur_push rfl ?_
                        exact ur_ret rfl rfl (hQ _ _ ⟨_, rfl, Or.inl ⟨fun q => by omega, by omega, by omega⟩⟩ hO0 un.rf (by omega) hX0)
          · have t316 := wi_noL c39 l_0 l_400
            refine ur_push rfl ?_
            exact ur_ret rfl rfl (hQ _ _ ⟨_, rfl, Or.inl ⟨fun q => by omega, by omega, by omega⟩⟩ hO0 un.rf (by omega) hX0)
        · have t317 := eq_no c35
          refine ur_ldI rfl rfl ?_
          refine ur_push rfl ?_
          refine ur_if2 rfl (fun c318 => ?_) (fun c318 => ?_)
          · have t319 := le_to c318
            refine ur_push rfl ?_
            exact ur_ret rfl rfl (hQ _ _ ⟨_, rfl, Or.inl ⟨fun q => by omega, by omega, by omega⟩⟩ hO0 un.rf (by omega) hX0)
          · have t320 := le_no c318
            refine ur_ldA rfl rfl ?_
            refine ur_get rfl hc2 (mf_32 hO0 hc2) ?_
            refine ur_ldI rfl rfl ?_
            obtain ⟨xs322, hc321, hn323, he324⟩ := hO0.int (hO0.fix 91 (by decide) rfl)
            refine ur_aldV rfl hc321 hn323 (by omega) (fun x325 hx326 => ?_)
            have t327 := gI_of (j := x18) hc321 hx326
            refine ur_if1 rfl (fun c328 => ?_) (fun c328 => ?_)
            · have t329 := eq_to c328
              refine ur_push rfl ?_
              exact ur_ret rfl rfl (hQ _ _ ⟨_, rfl, Or.inl ⟨fun q => by omega, by omega, by omega⟩⟩ hO0 un.rf (by omega) hX0)
            · have t330 := eq_no c328
              refine ur_ldI rfl rfl ?_
              refine ur_push rfl ?_
              refine ur_push rfl ?_
              refine ur_callv rfl rfl (Nat.le_of_ble_eq_true rfl) (Nat.le_of_ble_eq_true rfl) rfl (sp_in _ _ _ _ _) ?_
              refine ur_neB rfl (fun c333 => ?_) (fun c333 => ?_)
              · have t334 := wi_toL c333 l_0 l_400
                refine ur_ldI rfl rfl ?_
                refine ur_inl rfl rfl (Nat.le_of_ble_eq_true rfl) (Nat.le_of_ble_eq_true rfl) (sd_X12_isLodged hO0 _ (fun w335 hr336 => ?_))
                obtain ⟨b337, rfl, t338, t339⟩ := hr336
                show uRun _ (uCall Mt _) _ 87 (_, [(.inl (bi b337))], _, _, _)
                refine ur_eqB rfl (fun c340 => ?_) (fun c340 => ?_)
                · have t341 := t339 c340
                  refine ur_ldI rfl rfl ?_
                  refine ur_inl rfl rfl (Nat.le_of_ble_eq_true rfl) (Nat.le_of_ble_eq_true rfl) (sd_X12_isSided hO0 _ (fun w342 hr343 => ?_))
                  obtain ⟨b344, rfl, t345, t346⟩ := hr343
                  show uRun _ (uCall Mt _) _ 105 (_, [(.inl (bi b344))], _, _, _)
                  refine ur_eqB rfl (fun c347 => ?_) (fun c347 => ?_)
                  · have t348 := t346 c347
                    refine ur_ldI rfl rfl ?_
                    refine ur_push rfl ?_
                    refine ur_if2 rfl (fun c349 => ?_) (fun c349 => ?_)
                    · have t350 := ne_to c349
                      refine ur_ldA rfl rfl ?_
                      refine ur_get rfl hc2 p4 ?_
                      refine ur_push rfl ?_
                      refine ur_if2 rfl (fun c351 => ?_) (fun c351 => ?_)
                      · have t352 := ne_to c351
                        refine ur_ldA rfl rfl ?_
                        refine ur_ldI rfl rfl ?_
                        refine ur_ldI rfl rfl ?_
                        refine ur_ldA rfl rfl ?_
                        obtain ⟨f353, p354⟩ := mf_47 hO0 hc2
                        refine ur_get rfl hc2 p354 ?_
                        refine ur_ldA rfl rfl ?_
                        obtain ⟨f355, p356⟩ := mf_48 hO0 hc2
                        refine ur_get rfl hc2 p356 ?_
                        refine ur_ldA rfl rfl ?_
                        obtain ⟨f357, p358⟩ := mf_49 hO0 hc2
                        refine ur_get rfl hc2 p358 ?_
                        refine ur_ldI rfl rfl ?_
                        refine ur_push rfl ?_
                        refine ur_if2 rfl (fun c359 => ?_) (fun c359 => ?_)
                        · have t360 := ne_to c359
                          refine ur_ldI rfl rfl ?_
                          refine ur_ldI rfl rfl ?_
                          refine ur_ldI rfl rfl ?_
                          refine ur_inl rfl (rcv_of hc2) (Nat.le_of_ble_eq_true rfl) (Nat.le_of_ble_eq_true rfl) (sf_X12_newWord hO0 hX0 _ (by show 0 ≤ x14.toInt ∧ x14.toInt ≤ 7; omega) _ (by show 0 ≤ x7.toInt ∧ x7.toInt ≤ 8; omega) _ _ _ _ (by show -1 ≤ x18.toInt ∧ x18.toInt ≤ 19; omega) _ _ (by omega) (by omega) (by omega) (by omega) (fun w361 h365 hr362 hO365 hv365 hp363 hp364 => ?_))
                          have hu365 := hv365
                          obtain ⟨x366, rfl⟩ := hr362
                          show uRun _ (uCall Mt _) _ 181 (_, [(.inl x366)], _, _, _)
                          obtain ⟨fs367, hc368⟩ := hO365.mod
                          obtain ⟨f369, p370, t371⟩ := mf_38 hO365 hc368
                          have t372 := fI_of hc368 p370
                          exact ur_ret rfl rfl (hQ _ _ ⟨_, rfl, Or.inr (Or.inr ⟨⟨⟨by omega, by omega, by omega, by omega, by omega⟩, by omega, fun q => by omega, fun q => by omega, fun q => by omega⟩, by omega, by omega, by omega⟩)⟩ hO365 hu365 (by omega) hp364)
                        · have t373 := ne_no c359
                          exfalso
                          omega
                      · have t374 := ne_no c351
                        refine ur_push rfl ?_
                        exact ur_ret rfl rfl (hQ _ _ ⟨_, rfl, Or.inr (Or.inl ⟨⟨⟨by omega, by omega, by omega, by omega, by omega⟩, by omega, fun q => by omega, fun q => by omega, fun q => by omega⟩, by omega, by omega, by omega⟩)⟩ hO0 un.rf (by omega) hX0)
                    · have t375 := ne_no c349
                      refine ur_ldA rfl rfl ?_
                      refine ur_ldI rfl rfl ?_
                      refine ur_inl rfl (rcv_of hc2) (Nat.le_of_ble_eq_true rfl) (Nat.le_of_ble_eq_true rfl) (sd_X12_isWord hO0 _ (fun w376 hr377 => ?_))
                      obtain ⟨b378, rfl, t379, t380⟩ := hr377
                      show uRun _ (uCall Mt _) _ 128 (_, [(.inl (bi b378))], _, _, _)
                      refine ur_neB rfl (fun c381 => ?_) (fun c381 => ?_)
                      · have t382 := t379 c381
                        refine ur_ldA rfl rfl ?_
                        refine ur_get rfl hc2 p4 ?_
                        refine ur_push rfl ?_
                        refine ur_if2 rfl (fun c383 => ?_) (fun c383 => ?_)
                        · have t384 := ne_to c383
                          refine ur_ldA rfl rfl ?_
                          refine ur_ldI rfl rfl ?_
                          refine ur_ldI rfl rfl ?_
                          refine ur_ldA rfl rfl ?_
                          obtain ⟨f385, p386⟩ := mf_47 hO0 hc2
                          refine ur_get rfl hc2 p386 ?_
                          refine ur_ldA rfl rfl ?_
                          obtain ⟨f387, p388⟩ := mf_48 hO0 hc2
                          refine ur_get rfl hc2 p388 ?_
                          refine ur_ldA rfl rfl ?_
                          obtain ⟨f389, p390⟩ := mf_49 hO0 hc2
                          refine ur_get rfl hc2 p390 ?_
                          refine ur_ldI rfl rfl ?_
                          refine ur_push rfl ?_
                          refine ur_if2 rfl (fun c391 => ?_) (fun c391 => ?_)
                          · have t392 := ne_to c391
                            refine ur_ldI rfl rfl ?_
                            refine ur_ldI rfl rfl ?_
                            refine ur_ldI rfl rfl ?_
                            refine ur_inl rfl (rcv_of hc2) (Nat.le_of_ble_eq_true rfl) (Nat.le_of_ble_eq_true rfl) (sf_X12_newWord hO0 hX0 _ (by show 0 ≤ x14.toInt ∧ x14.toInt ≤ 7; omega) _ (by show 0 ≤ x7.toInt ∧ x7.toInt ≤ 8; omega) _ _ _ _ (by show -1 ≤ x18.toInt ∧ x18.toInt ≤ 19; omega) _ _ (by omega) (by omega) (by omega) (by omega) (fun w393 h397 hr394 hO397 hv397 hp395 hp396 => ?_))
                            have hu397 := hv397
                            obtain ⟨x398, rfl⟩ := hr394
                            show uRun _ (uCall Mt _) _ 181 (_, [(.inl x398)], _, _, _)
                            obtain ⟨fs399, hc400⟩ := hO397.mod
                            obtain ⟨f401, p402, t403⟩ := mf_38 hO397 hc400
                            have t404 := fI_of hc400 p402
                            exact ur_ret rfl rfl (hQ _ _ ⟨_, rfl, Or.inr (Or.inr ⟨⟨⟨by omega, by omega, by omega, by omega, by omega⟩, by omega, fun q => by omega, fun q => by omega, fun q => by omega⟩, by omega, by omega, by omega⟩)⟩ hO397 hu397 (by omega) hp396)
                          · have t405 := ne_no c391
                            exfalso
                            omega
                        · have t406 := ne_no c383
                          refine ur_push rfl ?_
                          exact ur_ret rfl rfl (hQ _ _ ⟨_, rfl, Or.inr (Or.inl ⟨⟨⟨by omega, by omega, by omega, by omega, by omega⟩, by omega, fun q => by omega, fun q => by omega, fun q => by omega⟩, by omega, by omega, by omega⟩)⟩ hO0 un.rf (by omega) hX0)
                      · have t407 := t380 c381
                        refine ur_push rfl ?_
                        exact ur_ret rfl rfl (hQ _ _ ⟨_, rfl, Or.inl ⟨fun q => by omega, by omega, by omega⟩⟩ hO0 un.rf (by omega) hX0)
                  · have t408 := t345 c347
                    refine ur_ldI rfl rfl ?_
                    refine ur_push rfl ?_
                    refine ur_push rfl ?_
                    refine ur_callv rfl rfl (Nat.le_of_ble_eq_true rfl) (Nat.le_of_ble_eq_true rfl) rfl (sp_in _ _ _ _ _) ?_
                    refine ur_eqB rfl (fun c411 => ?_) (fun c411 => ?_)
                    · have t412 := wi_noL c411 l_0 l_1
                      refine ur_push rfl ?_
                      exact ur_ret rfl rfl (hQ _ _ ⟨_, rfl, Or.inl ⟨fun q => by omega, by omega, by omega⟩⟩ hO0 un.rf (by omega) hX0)
                    · have t413 := wi_toL c411 l_0 l_1
                      refine ur_ldI rfl rfl ?_
                      refine ur_push rfl ?_
                      refine ur_if2 rfl (fun c414 => ?_) (fun c414 => ?_)
                      · have t415 := ne_to c414
                        refine ur_ldA rfl rfl ?_
                        refine ur_get rfl hc2 p4 ?_
                        refine ur_push rfl ?_
                        refine ur_if2 rfl (fun c416 => ?_) (fun c416 => ?_)
                        · have t417 := ne_to c416
                          refine ur_ldA rfl rfl ?_
                          refine ur_ldI rfl rfl ?_
                          refine ur_ldI rfl rfl ?_
                          refine ur_ldA rfl rfl ?_
                          obtain ⟨f418, p419⟩ := mf_47 hO0 hc2
                          refine ur_get rfl hc2 p419 ?_
                          refine ur_ldA rfl rfl ?_
                          obtain ⟨f420, p421⟩ := mf_48 hO0 hc2
                          refine ur_get rfl hc2 p421 ?_
                          refine ur_ldA rfl rfl ?_
                          obtain ⟨f422, p423⟩ := mf_49 hO0 hc2
                          refine ur_get rfl hc2 p423 ?_
                          refine ur_ldI rfl rfl ?_
                          refine ur_push rfl ?_
                          refine ur_if2 rfl (fun c424 => ?_) (fun c424 => ?_)
                          · have t425 := ne_to c424
                            refine ur_ldI rfl rfl ?_
                            refine ur_ldI rfl rfl ?_
                            refine ur_ldI rfl rfl ?_
                            refine ur_inl rfl (rcv_of hc2) (Nat.le_of_ble_eq_true rfl) (Nat.le_of_ble_eq_true rfl) (sf_X12_newWord hO0 hX0 _ (by show 0 ≤ x14.toInt ∧ x14.toInt ≤ 7; omega) _ (by show 0 ≤ x7.toInt ∧ x7.toInt ≤ 8; omega) _ _ _ _ (by show -1 ≤ x18.toInt ∧ x18.toInt ≤ 19; omega) _ _ (by omega) (by omega) (by omega) (by omega) (fun w426 h430 hr427 hO430 hv430 hp428 hp429 => ?_))
                            have hu430 := hv430
                            obtain ⟨x431, rfl⟩ := hr427
                            show uRun _ (uCall Mt _) _ 181 (_, [(.inl x431)], _, _, _)
                            obtain ⟨fs432, hc433⟩ := hO430.mod
                            obtain ⟨f434, p435, t436⟩ := mf_38 hO430 hc433
                            have t437 := fI_of hc433 p435
                            exact ur_ret rfl rfl (hQ _ _ ⟨_, rfl, Or.inr (Or.inr ⟨⟨⟨by omega, by omega, by omega, by omega, by omega⟩, by omega, fun q => by omega, fun q => by omega, fun q => by omega⟩, by omega, by omega, by omega⟩)⟩ hO430 hu430 (by omega) hp429)
                          · have t438 := ne_no c424
                            exfalso
                            omega
                        · have t439 := ne_no c416
                          refine ur_push rfl ?_
                          exact ur_ret rfl rfl (hQ _ _ ⟨_, rfl, Or.inr (Or.inl ⟨⟨⟨by omega, by omega, by omega, by omega, by omega⟩, by omega, fun q => by omega, fun q => by omega, fun q => by omega⟩, by omega, by omega, by omega⟩)⟩ hO0 un.rf (by omega) hX0)
                      · have t440 := ne_no c414
                        refine ur_ldA rfl rfl ?_
                        refine ur_ldI rfl rfl ?_
                        refine ur_inl rfl (rcv_of hc2) (Nat.le_of_ble_eq_true rfl) (Nat.le_of_ble_eq_true rfl) (sd_X12_isWord hO0 _ (fun w441 hr442 => ?_))
                        obtain ⟨b443, rfl, t444, t445⟩ := hr442
                        show uRun _ (uCall Mt _) _ 128 (_, [(.inl (bi b443))], _, _, _)
                        refine ur_neB rfl (fun c446 => ?_) (fun c446 => ?_)
                        · have t447 := t444 c446
                          refine ur_ldA rfl rfl ?_
                          refine ur_get rfl hc2 p4 ?_
                          refine ur_push rfl ?_
                          refine ur_if2 rfl (fun c448 => ?_) (fun c448 => ?_)
                          · have t449 := ne_to c448
                            refine ur_ldA rfl rfl ?_
                            refine ur_ldI rfl rfl ?_
                            refine ur_ldI rfl rfl ?_
                            refine ur_ldA rfl rfl ?_
                            obtain ⟨f450, p451⟩ := mf_47 hO0 hc2
                            refine ur_get rfl hc2 p451 ?_
                            refine ur_ldA rfl rfl ?_
                            obtain ⟨f452, p453⟩ := mf_48 hO0 hc2
                            refine ur_get rfl hc2 p453 ?_
                            refine ur_ldA rfl rfl ?_
                            obtain ⟨f454, p455⟩ := mf_49 hO0 hc2
                            refine ur_get rfl hc2 p455 ?_
                            refine ur_ldI rfl rfl ?_
                            refine ur_push rfl ?_
                            refine ur_if2 rfl (fun c456 => ?_) (fun c456 => ?_)
                            · have t457 := ne_to c456
                              refine ur_ldI rfl rfl ?_
                              refine ur_ldI rfl rfl ?_
                              refine ur_ldI rfl rfl ?_
                              refine ur_inl rfl (rcv_of hc2) (Nat.le_of_ble_eq_true rfl) (Nat.le_of_ble_eq_true rfl) (sf_X12_newWord hO0 hX0 _ (by show 0 ≤ x14.toInt ∧ x14.toInt ≤ 7; omega) _ (by show 0 ≤ x7.toInt ∧ x7.toInt ≤ 8; omega) _ _ _ _ (by show -1 ≤ x18.toInt ∧ x18.toInt ≤ 19; omega) _ _ (by omega) (by omega) (by omega) (by omega) (fun w458 h462 hr459 hO462 hv462 hp460 hp461 => ?_))
                              have hu462 := hv462
                              obtain ⟨x463, rfl⟩ := hr459
                              show uRun _ (uCall Mt _) _ 181 (_, [(.inl x463)], _, _, _)
                              obtain ⟨fs464, hc465⟩ := hO462.mod
                              obtain ⟨f466, p467, t468⟩ := mf_38 hO462 hc465
                              have t469 := fI_of hc465 p467
                              exact ur_ret rfl rfl (hQ _ _ ⟨_, rfl, Or.inr (Or.inr ⟨⟨⟨by omega, by omega, by omega, by omega, by omega⟩, by omega, fun q => by omega, fun q => by omega, fun q => by omega⟩, by omega, by omega, by omega⟩)⟩ hO462 hu462 (by omega) hp461)
                            · have t470 := ne_no c456
                              exfalso
                              omega
                          · have t471 := ne_no c448
                            refine ur_push rfl ?_
                            exact ur_ret rfl rfl (hQ _ _ ⟨_, rfl, Or.inr (Or.inl ⟨⟨⟨by omega, by omega, by omega, by omega, by omega⟩, by omega, fun q => by omega, fun q => by omega, fun q => by omega⟩, by omega, by omega, by omega⟩)⟩ hO0 un.rf (by omega) hX0)
                        · have t472 := t445 c446
                          refine ur_push rfl ?_
                          exact ur_ret rfl rfl (hQ _ _ ⟨_, rfl, Or.inl ⟨fun q => by omega, by omega, by omega⟩⟩ hO0 un.rf (by omega) hX0)
                · have t473 := t338 c340
                  refine ur_ldI rfl rfl ?_
                  refine ur_push rfl ?_
                  refine ur_push rfl ?_
                  refine ur_callv rfl rfl (Nat.le_of_ble_eq_true rfl) (Nat.le_of_ble_eq_true rfl) rfl (sp_in _ _ _ _ _) ?_
                  refine ur_eqB rfl (fun c476 => ?_) (fun c476 => ?_)
                  · have t477 := wi_noL c476 l_0 l_23
                    refine ur_push rfl ?_
                    exact ur_ret rfl rfl (hQ _ _ ⟨_, rfl, Or.inl ⟨fun q => by omega, by omega, by omega⟩⟩ hO0 un.rf (by omega) hX0)
                  · have t478 := wi_toL c476 l_0 l_23
                    refine ur_ldI rfl rfl ?_
                    refine ur_inl rfl rfl (Nat.le_of_ble_eq_true rfl) (Nat.le_of_ble_eq_true rfl) (sd_X12_isSided hO0 _ (fun w479 hr480 => ?_))
                    obtain ⟨b481, rfl, t482, t483⟩ := hr480
                    show uRun _ (uCall Mt _) _ 105 (_, [(.inl (bi b481))], _, _, _)
                    refine ur_eqB rfl (fun c484 => ?_) (fun c484 => ?_)
                    · have t485 := t483 c484
                      refine ur_ldI rfl rfl ?_
                      refine ur_push rfl ?_
                      refine ur_if2 rfl (fun c486 => ?_) (fun c486 => ?_)
                      · have t487 := ne_to c486
                        refine ur_ldA rfl rfl ?_
                        refine ur_get rfl hc2 p4 ?_
                        refine ur_push rfl ?_
                        refine ur_if2 rfl (fun c488 => ?_) (fun c488 => ?_)
                        · have t489 := ne_to c488
                          refine ur_ldA rfl rfl ?_
                          refine ur_ldI rfl rfl ?_
                          refine ur_ldI rfl rfl ?_
                          refine ur_ldA rfl rfl ?_
                          obtain ⟨f490, p491⟩ := mf_47 hO0 hc2
                          refine ur_get rfl hc2 p491 ?_
                          refine ur_ldA rfl rfl ?_
                          obtain ⟨f492, p493⟩ := mf_48 hO0 hc2
                          refine ur_get rfl hc2 p493 ?_
                          refine ur_ldA rfl rfl ?_
                          obtain ⟨f494, p495⟩ := mf_49 hO0 hc2
                          refine ur_get rfl hc2 p495 ?_
                          refine ur_ldI rfl rfl ?_
                          refine ur_push rfl ?_
                          refine ur_if2 rfl (fun c496 => ?_) (fun c496 => ?_)
                          · have t497 := ne_to c496
                            refine ur_ldI rfl rfl ?_
                            refine ur_ldI rfl rfl ?_
                            refine ur_ldI rfl rfl ?_
                            refine ur_inl rfl (rcv_of hc2) (Nat.le_of_ble_eq_true rfl) (Nat.le_of_ble_eq_true rfl) (sf_X12_newWord hO0 hX0 _ (by show 0 ≤ x14.toInt ∧ x14.toInt ≤ 7; omega) _ (by show 0 ≤ x7.toInt ∧ x7.toInt ≤ 8; omega) _ _ _ _ (by show -1 ≤ x18.toInt ∧ x18.toInt ≤ 19; omega) _ _ (by omega) (by omega) (by omega) (by omega) (fun w498 h502 hr499 hO502 hv502 hp500 hp501 => ?_))
                            have hu502 := hv502
                            obtain ⟨x503, rfl⟩ := hr499
                            show uRun _ (uCall Mt _) _ 181 (_, [(.inl x503)], _, _, _)
                            obtain ⟨fs504, hc505⟩ := hO502.mod
                            obtain ⟨f506, p507, t508⟩ := mf_38 hO502 hc505
                            have t509 := fI_of hc505 p507
                            exact ur_ret rfl rfl (hQ _ _ ⟨_, rfl, Or.inr (Or.inr ⟨⟨⟨by omega, by omega, by omega, by omega, by omega⟩, by omega, fun q => by omega, fun q => by omega, fun q => by omega⟩, by omega, by omega, by omega⟩)⟩ hO502 hu502 (by omega) hp501)
                          · have t510 := ne_no c496
                            exfalso
                            omega
                        · have t511 := ne_no c488
                          refine ur_push rfl ?_
                          exact ur_ret rfl rfl (hQ _ _ ⟨_, rfl, Or.inr (Or.inl ⟨⟨⟨by omega, by omega, by omega, by omega, by omega⟩, by omega, fun q => by omega, fun q => by omega, fun q => by omega⟩, by omega, by omega, by omega⟩)⟩ hO0 un.rf (by omega) hX0)
                      · have t512 := ne_no c486
                        refine ur_ldA rfl rfl ?_
                        refine ur_ldI rfl rfl ?_
                        refine ur_inl rfl (rcv_of hc2) (Nat.le_of_ble_eq_true rfl) (Nat.le_of_ble_eq_true rfl) (sd_X12_isWord hO0 _ (fun w513 hr514 => ?_))
                        obtain ⟨b515, rfl, t516, t517⟩ := hr514
                        show uRun _ (uCall Mt _) _ 128 (_, [(.inl (bi b515))], _, _, _)
                        refine ur_neB rfl (fun c518 => ?_) (fun c518 => ?_)
                        · have t519 := t516 c518
                          refine ur_ldA rfl rfl ?_
                          refine ur_get rfl hc2 p4 ?_
                          refine ur_push rfl ?_
                          refine ur_if2 rfl (fun c520 => ?_) (fun c520 => ?_)
                          · have t521 := ne_to c520
                            refine ur_ldA rfl rfl ?_
                            refine ur_ldI rfl rfl ?_
                            refine ur_ldI rfl rfl ?_
                            refine ur_ldA rfl rfl ?_
                            obtain ⟨f522, p523⟩ := mf_47 hO0 hc2
                            refine ur_get rfl hc2 p523 ?_
                            refine ur_ldA rfl rfl ?_
                            obtain ⟨f524, p525⟩ := mf_48 hO0 hc2
                            refine ur_get rfl hc2 p525 ?_
                            refine ur_ldA rfl rfl ?_
                            obtain ⟨f526, p527⟩ := mf_49 hO0 hc2
                            refine ur_get rfl hc2 p527 ?_
                            refine ur_ldI rfl rfl ?_
                            refine ur_push rfl ?_
                            refine ur_if2 rfl (fun c528 => ?_) (fun c528 => ?_)
                            · have t529 := ne_to c528
                              refine ur_ldI rfl rfl ?_
                              refine ur_ldI rfl rfl ?_
                              refine ur_ldI rfl rfl ?_
                              refine ur_inl rfl (rcv_of hc2) (Nat.le_of_ble_eq_true rfl) (Nat.le_of_ble_eq_true rfl) (sf_X12_newWord hO0 hX0 _ (by show 0 ≤ x14.toInt ∧ x14.toInt ≤ 7; omega) _ (by show 0 ≤ x7.toInt ∧ x7.toInt ≤ 8; omega) _ _ _ _ (by show -1 ≤ x18.toInt ∧ x18.toInt ≤ 19; omega) _ _ (by omega) (by omega) (by omega) (by omega) (fun w530 h534 hr531 hO534 hv534 hp532 hp533 => ?_))
                              have hu534 := hv534
                              obtain ⟨x535, rfl⟩ := hr531
                              show uRun _ (uCall Mt _) _ 181 (_, [(.inl x535)], _, _, _)
                              obtain ⟨fs536, hc537⟩ := hO534.mod
                              obtain ⟨f538, p539, t540⟩ := mf_38 hO534 hc537
                              have t541 := fI_of hc537 p539
                              exact ur_ret rfl rfl (hQ _ _ ⟨_, rfl, Or.inr (Or.inr ⟨⟨⟨by omega, by omega, by omega, by omega, by omega⟩, by omega, fun q => by omega, fun q => by omega, fun q => by omega⟩, by omega, by omega, by omega⟩)⟩ hO534 hu534 (by omega) hp533)
                            · have t542 := ne_no c528
                              exfalso
                              omega
                          · have t543 := ne_no c520
                            refine ur_push rfl ?_
                            exact ur_ret rfl rfl (hQ _ _ ⟨_, rfl, Or.inr (Or.inl ⟨⟨⟨by omega, by omega, by omega, by omega, by omega⟩, by omega, fun q => by omega, fun q => by omega, fun q => by omega⟩, by omega, by omega, by omega⟩)⟩ hO0 un.rf (by omega) hX0)
                        · have t544 := t517 c518
                          refine ur_push rfl ?_
                          exact ur_ret rfl rfl (hQ _ _ ⟨_, rfl, Or.inl ⟨fun q => by omega, by omega, by omega⟩⟩ hO0 un.rf (by omega) hX0)
                    · have t545 := t482 c484
                      refine ur_ldI rfl rfl ?_
                      refine ur_push rfl ?_
                      refine ur_push rfl ?_
                      refine ur_callv rfl rfl (Nat.le_of_ble_eq_true rfl) (Nat.le_of_ble_eq_true rfl) rfl (sp_in _ _ _ _ _) ?_
                      refine ur_eqB rfl (fun c548 => ?_) (fun c548 => ?_)
                      · have t549 := wi_noL c548 l_0 l_1
                        refine ur_push rfl ?_
                        exact ur_ret rfl rfl (hQ _ _ ⟨_, rfl, Or.inl ⟨fun q => by omega, by omega, by omega⟩⟩ hO0 un.rf (by omega) hX0)
                      · have t550 := wi_toL c548 l_0 l_1
                        refine ur_ldI rfl rfl ?_
                        refine ur_push rfl ?_
                        refine ur_if2 rfl (fun c551 => ?_) (fun c551 => ?_)
                        · have t552 := ne_to c551
                          refine ur_ldA rfl rfl ?_
                          refine ur_get rfl hc2 p4 ?_
                          refine ur_push rfl ?_
                          refine ur_if2 rfl (fun c553 => ?_) (fun c553 => ?_)
                          · have t554 := ne_to c553
                            refine ur_ldA rfl rfl ?_
                            refine ur_ldI rfl rfl ?_
                            refine ur_ldI rfl rfl ?_
                            refine ur_ldA rfl rfl ?_
                            obtain ⟨f555, p556⟩ := mf_47 hO0 hc2
                            refine ur_get rfl hc2 p556 ?_
                            refine ur_ldA rfl rfl ?_
                            obtain ⟨f557, p558⟩ := mf_48 hO0 hc2
                            refine ur_get rfl hc2 p558 ?_
                            refine ur_ldA rfl rfl ?_
                            obtain ⟨f559, p560⟩ := mf_49 hO0 hc2
                            refine ur_get rfl hc2 p560 ?_
                            refine ur_ldI rfl rfl ?_
                            refine ur_push rfl ?_
                            refine ur_if2 rfl (fun c561 => ?_) (fun c561 => ?_)
                            · have t562 := ne_to c561
                              refine ur_ldI rfl rfl ?_
                              refine ur_ldI rfl rfl ?_
                              refine ur_ldI rfl rfl ?_
                              refine ur_inl rfl (rcv_of hc2) (Nat.le_of_ble_eq_true rfl) (Nat.le_of_ble_eq_true rfl) (sf_X12_newWord hO0 hX0 _ (by show 0 ≤ x14.toInt ∧ x14.toInt ≤ 7; omega) _ (by show 0 ≤ x7.toInt ∧ x7.toInt ≤ 8; omega) _ _ _ _ (by show -1 ≤ x18.toInt ∧ x18.toInt ≤ 19; omega) _ _ (by omega) (by omega) (by omega) (by omega) (fun w563 h567 hr564 hO567 hv567 hp565 hp566 => ?_))
                              have hu567 := hv567
                              obtain ⟨x568, rfl⟩ := hr564
                              show uRun _ (uCall Mt _) _ 181 (_, [(.inl x568)], _, _, _)
                              obtain ⟨fs569, hc570⟩ := hO567.mod
                              obtain ⟨f571, p572, t573⟩ := mf_38 hO567 hc570
                              have t574 := fI_of hc570 p572
                              exact ur_ret rfl rfl (hQ _ _ ⟨_, rfl, Or.inr (Or.inr ⟨⟨⟨by omega, by omega, by omega, by omega, by omega⟩, by omega, fun q => by omega, fun q => by omega, fun q => by omega⟩, by omega, by omega, by omega⟩)⟩ hO567 hu567 (by omega) hp566)
                            · have t575 := ne_no c561
                              exfalso
                              omega
                          · have t576 := ne_no c553
                            refine ur_push rfl ?_
                            exact ur_ret rfl rfl (hQ _ _ ⟨_, rfl, Or.inr (Or.inl ⟨⟨⟨by omega, by omega, by omega, by omega, by omega⟩, by omega, fun q => by omega, fun q => by omega, fun q => by omega⟩, by omega, by omega, by omega⟩)⟩ hO0 un.rf (by omega) hX0)
                        · have t577 := ne_no c551
                          refine ur_ldA rfl rfl ?_
                          refine ur_ldI rfl rfl ?_
                          refine ur_inl rfl (rcv_of hc2) (Nat.le_of_ble_eq_true rfl) (Nat.le_of_ble_eq_true rfl) (sd_X12_isWord hO0 _ (fun w578 hr579 => ?_))
                          obtain ⟨b580, rfl, t581, t582⟩ := hr579
                          show uRun _ (uCall Mt _) _ 128 (_, [(.inl (bi b580))], _, _, _)
                          refine ur_neB rfl (fun c583 => ?_) (fun c583 => ?_)
                          · have t584 := t581 c583
                            refine ur_ldA rfl rfl ?_
                            refine ur_get rfl hc2 p4 ?_
                            refine ur_push rfl ?_
                            refine ur_if2 rfl (fun c585 => ?_) (fun c585 => ?_)
                            · have t586 := ne_to c585
                              refine ur_ldA rfl rfl ?_
                              refine ur_ldI rfl rfl ?_
                              refine ur_ldI rfl rfl ?_
                              refine ur_ldA rfl rfl ?_
                              obtain ⟨f587, p588⟩ := mf_47 hO0 hc2
                              refine ur_get rfl hc2 p588 ?_
                              refine ur_ldA rfl rfl ?_
                              obtain ⟨f589, p590⟩ := mf_48 hO0 hc2
                              refine ur_get rfl hc2 p590 ?_
                              refine ur_ldA rfl rfl ?_
                              obtain ⟨f591, p592⟩ := mf_49 hO0 hc2
                              refine ur_get rfl hc2 p592 ?_
                              refine ur_ldI rfl rfl ?_
                              refine ur_push rfl ?_
                              refine ur_if2 rfl (fun c593 => ?_) (fun c593 => ?_)
                              · have t594 := ne_to c593
                                refine ur_ldI rfl rfl ?_
                                refine ur_ldI rfl rfl ?_
                                refine ur_ldI rfl rfl ?_
                                refine ur_inl rfl (rcv_of hc2) (Nat.le_of_ble_eq_true rfl) (Nat.le_of_ble_eq_true rfl) (sf_X12_newWord hO0 hX0 _ (by show 0 ≤ x14.toInt ∧ x14.toInt ≤ 7; omega) _ (by show 0 ≤ x7.toInt ∧ x7.toInt ≤ 8; omega) _ _ _ _ (by show -1 ≤ x18.toInt ∧ x18.toInt ≤ 19; omega) _ _ (by omega) (by omega) (by omega) (by omega) (fun w595 h599 hr596 hO599 hv599 hp597 hp598 => ?_))
                                have hu599 := hv599
                                obtain ⟨x600, rfl⟩ := hr596
                                show uRun _ (uCall Mt _) _ 181 (_, [(.inl x600)], _, _, _)
                                obtain ⟨fs601, hc602⟩ := hO599.mod
                                obtain ⟨f603, p604, t605⟩ := mf_38 hO599 hc602
                                have t606 := fI_of hc602 p604
                                exact ur_ret rfl rfl (hQ _ _ ⟨_, rfl, Or.inr (Or.inr ⟨⟨⟨by omega, by omega, by omega, by omega, by omega⟩, by omega, fun q => by omega, fun q => by omega, fun q => by omega⟩, by omega, by omega, by omega⟩)⟩ hO599 hu599 (by omega) hp598)
                              · have t607 := ne_no c593
                                exfalso
                                omega
                            · have t608 := ne_no c585
                              refine ur_push rfl ?_
                              exact ur_ret rfl rfl (hQ _ _ ⟨_, rfl, Or.inr (Or.inl ⟨⟨⟨by omega, by omega, by omega, by omega, by omega⟩, by omega, fun q => by omega, fun q => by omega, fun q => by omega⟩, by omega, by omega, by omega⟩)⟩ hO0 un.rf (by omega) hX0)
                          · have t609 := t582 c583
                            refine ur_push rfl ?_
                            exact ur_ret rfl rfl (hQ _ _ ⟨_, rfl, Or.inl ⟨fun q => by omega, by omega, by omega⟩⟩ hO0 un.rf (by omega) hX0)
              · have t610 := wi_noL c333 l_0 l_400
                refine ur_push rfl ?_
                exact ur_ret rfl rfl (hQ _ _ ⟨_, rfl, Or.inl ⟨fun q => by omega, by omega, by omega⟩⟩ hO0 un.rf (by omega) hX0)

set_option maxRecDepth 20000 in
set_option maxHeartbeats 4000000 in
theorem sd_X12_words {d kc ks : Nat} {h0 : aH} {Q : Option aV → aH → Prop} (hO0 : OK h0) (hX0 : SX h0) (a1 : Int32) (a2 : Int32) (a3 : Int32) (a4 : Int32) (hQ : ∀ r h', (∃ x : Int32, r = some (.inl x) ∧ ((¬ ((0 ≤ a1.toInt ∧ a1.toInt ≤ 8) ∧ (0 ≤ a2.toInt ∧ a2.toInt ≤ 5) ∧ 1 ≤ a4.toInt ∧ a4.toInt ≤ 12) → x.toInt = -1 ∧ fI h' 38 = fI h0 38) ∧ (((0 ≤ a1.toInt ∧ a1.toInt ≤ 8) ∧ (0 ≤ a2.toInt ∧ a2.toInt ≤ 5) ∧ 1 ≤ a4.toInt ∧ a4.toInt ≤ 12) ∧ gI h0 110 a2.toInt = -1 → x.toInt = 0 ∧ fI h' 38 = fI h0 38) ∧ (((0 ≤ a1.toInt ∧ a1.toInt ≤ 8) ∧ (0 ≤ a2.toInt ∧ a2.toInt ≤ 5) ∧ 1 ≤ a4.toInt ∧ a4.toInt ≤ 12) ∧ gI h0 110 a2.toInt ≠ -1 ∧ gI h0 110 a2.toInt ≠ -3 → x.toInt = -12 ∧ fI h' 38 = fI h0 38) ∧ (((0 ≤ a1.toInt ∧ a1.toInt ≤ 8) ∧ (0 ≤ a2.toInt ∧ a2.toInt ≤ 5) ∧ 1 ≤ a4.toInt ∧ a4.toInt ≤ 12) ∧ gI h0 110 a2.toInt = -3 → isR (GM h0 a2.toInt a3.toInt a4.toInt (fI h0 38)) x.toInt ∧ fI h' 38 = fI h0 38 + x.toInt))) → OK h' → un [96, 97, 98, 99, 100, 101, 102, 103, 7938] h0 h' → (fI h' 38 ≤ fI h0 38 + 12) → (SX h') → Q r h') : uCall Mt (d + 3) 240 [(.inr (.inr (some 69))), (.inl a1), (.inl a2), (.inl a3), (.inl a4)] h0 kc ks Q := by
  have l_m12 : ((-12) : Int32).toInt = -12 := by decide
  have l_m3 : ((-3) : Int32).toInt = -3 := by decide
  have l_m1 : ((-1) : Int32).toInt = -1 := by decide
  have l_0 : ((0) : Int32).toInt = 0 := by decide
  have l_1 : ((1) : Int32).toInt = 1 := by decide
  have l_2 : ((2) : Int32).toInt = 2 := by decide
  have l_3 : ((3) : Int32).toInt = 3 := by decide
  have l_4 : ((4) : Int32).toInt = 4 := by decide
  have l_5 : ((5) : Int32).toInt = 5 := by decide
  have l_8 : ((8) : Int32).toInt = 8 := by decide
  have l_12 : ((12) : Int32).toInt = 12 := by decide
  have l_60 : ((60) : Int32).toInt = 60 := by decide
  have l_150 : ((150) : Int32).toInt = 150 := by decide
  have l_400 : ((400) : Int32).toInt = 400 := by decide
  have l_9999 : ((9999) : Int32).toInt = 9999 := by decide
  refine uc_ink [some (.inr (.inr (some 69))), some (.inl a1), some (.inl a2), some (.inl a3), some (.inl a4), none, none, none, none, none, none, none, none] mt_240 (Nat.le_of_ble_eq_true rfl) rfl ?_
  obtain ⟨fs1, hc2⟩ := hO0.mod
  obtain ⟨f3, p4, t5⟩ := mf_38 hO0 hc2
  have t6 := fI_of hc2 p4
  have t7 := gI111 hO0 a2.toInt
  refine ur_ldI rfl rfl ?_
  refine ur_callv rfl rfl (Nat.le_of_ble_eq_true rfl) (Nat.le_of_ble_eq_true rfl) rfl (sq_isPpl _ _) ?_
  refine ur_eqB rfl (fun c10 => ?_) (fun c10 => ?_)
  · have t11 := wi_noL c10 l_0 l_8
    refine ur_push rfl ?_
    exact ur_ret rfl rfl (hQ _ _ ⟨_, rfl, ⟨fun q => by omega, fun q => by omega, fun q => by omega, fun q => by exfalso; omega⟩⟩ hO0 un.rf (by omega) hX0)
  · have t12 := wi_toL c10 l_0 l_8
    refine ur_ldI rfl rfl ?_
    refine ur_callv rfl rfl (Nat.le_of_ble_eq_true rfl) (Nat.le_of_ble_eq_true rfl) rfl (sq_isShf _ _) ?_
    refine ur_eqB rfl (fun c15 => ?_) (fun c15 => ?_)
    · have t16 := wi_noL c15 l_0 l_5
      refine ur_push rfl ?_
      exact ur_ret rfl rfl (hQ _ _ ⟨_, rfl, ⟨fun q => by omega, fun q => by omega, fun q => by omega, fun q => by exfalso; omega⟩⟩ hO0 un.rf (by omega) hX0)
    · have t17 := wi_toL c15 l_0 l_5
      refine ur_ldI rfl rfl ?_
      refine ur_push rfl ?_
      refine ur_push rfl ?_
      refine ur_callv rfl rfl (Nat.le_of_ble_eq_true rfl) (Nat.le_of_ble_eq_true rfl) rfl (sp_in _ _ _ _ _) ?_
      refine ur_neB rfl (fun c20 => ?_) (fun c20 => ?_)
      · have t21 := wi_toL c20 l_1 l_12
        refine ur_ldA rfl rfl ?_
        refine ur_get rfl hc2 (mf_65 hO0 hc2) ?_
        refine ur_ldI rfl rfl ?_
        obtain ⟨xs23, hc22, hn24, he25⟩ := hO0.int (hO0.fix 110 (by decide) rfl)
        refine ur_aldV rfl hc22 hn24 (by omega) (fun x26 hx27 => ?_)
        have t28 := gI_of (j := a2) hc22 hx27
        have t29 : -6 ≤ x26.toInt ∧ x26.toInt ≤ 149 := he25 _ _ hx27
        refine ur_push rfl ?_
        refine ur_if2 rfl (fun c30 => ?_) (fun c30 => ?_)
        · have t31 := eq_to c30
          refine ur_ldA rfl rfl ?_
          refine ur_get rfl hc2 (mf_65 hO0 hc2) ?_
          refine ur_ldI rfl rfl ?_
          refine ur_aldV rfl hc22 hn24 (by omega) (fun x32 hx33 => ?_)
          obtain rfl : x26 = x32 := Option.some.inj (hx27.symm.trans hx33)
          refine ur_push rfl ?_
          refine ur_if2 rfl (fun c34 => ?_) (fun c34 => ?_)
          · have t35 := ne_to c34
            exfalso
            omega
          · have t36 := ne_no c34
            refine ur_push rfl ?_
            exact ur_ret rfl rfl (hQ _ _ ⟨_, rfl, ⟨fun q => by omega, fun q => by omega, fun q => by omega, fun q => by exfalso; omega⟩⟩ hO0 un.rf (by omega) hX0)
        · have t37 := eq_no c30
          refine ur_ldA rfl rfl ?_
          refine ur_get rfl hc2 (mf_65 hO0 hc2) ?_
          refine ur_ldI rfl rfl ?_
          refine ur_aldV rfl hc22 hn24 (by omega) (fun x38 hx39 => ?_)
          obtain rfl : x26 = x38 := Option.some.inj (hx27.symm.trans hx39)
          refine ur_push rfl ?_
          refine ur_if2 rfl (fun c40 => ?_) (fun c40 => ?_)
          · have t41 := eq_to c40
            refine ur_ldA rfl rfl ?_
            refine ur_get rfl hc2 (mf_65 hO0 hc2) ?_
            refine ur_ldI rfl rfl ?_
            refine ur_aldV rfl hc22 hn24 (by omega) (fun x42 hx43 => ?_)
            obtain rfl : x26 = x42 := Option.some.inj (hx27.symm.trans hx43)
            refine ur_push rfl ?_
            refine ur_if2 rfl (fun c44 => ?_) (fun c44 => ?_)
            · have t45 := ne_to c44
              refine ur_push rfl ?_
              refine ur_svIk [some (.inr (.inr (some 69))), some (.inl a1), some (.inl a2), some (.inl a3), some (.inl a4), some (.inl 0), none, none, none, none, none, none, none] rfl rfl ?_
              have L53 : ∀ (m54 : Nat) (x46 : Int32) (u47 : Option aV) (u48 : Option aV) (u49 : Option aV) (u50 : Option aV) (u51 : Option aV) (u52 : Option aV) (h56 : aH) , OK h56 → un [96, 97, 98, 99, 100, 101, 102, 103, 7938] h0 h56 → ((0 ≤ x46.toInt ∧ x46.toInt ≤ 12) ∧ fI h56 38 = fI h0 38 + x46.toInt) → (∀ j : Nat, (j : Int) < x46.toInt → GM h0 a2.toInt a3.toInt a4.toInt (fI h0 38) j) → (SX h56) → ((13 - x46.toInt).toNat) < m54 → uRun oX12_words (uCall Mt (d + 2)) Q 66 ([some (.inr (.inr (some 69))), some (.inl a1), some (.inl a2), some (.inl a3), some (.inl a4), some (.inl x46), u47, none, u48, u49, u50, u51, u52], [], h56, kc, ks) := by
                intro m54
                induction m54 with
                | zero => intro x46 u47 u48 u49 u50 u51 u52 h56 hO56 hu56 iv59 px57 px58 mm60; omega
                | succ m54 ih55 =>
                  intro x46 u47 u48 u49 u50 u51 u52 h56 hO56 hu56 iv59 px57 px58 mm60
                  refine ur_ldI rfl rfl ?_
                  refine ur_ldI rfl rfl ?_
                  have z61 := any_r x46
                  have z62 := any_r a4
                  refine ur_if2 rfl (fun c63 => ?_) (fun c63 => ?_)
                  · have t64 := le_to c63
                    refine ur_ldI rfl rfl ?_
                    obtain ⟨fs65, hc66⟩ := hO56.mod
                    obtain ⟨f67, p68, t69⟩ := mf_38 hO56 hc66
                    have t70 := fI_of hc66 p68
                    exact ur_ret rfl rfl (hQ _ _ ⟨_, rfl, ⟨fun q => absurd (by omega) q, fun q => by exfalso; omega, fun q => by exfalso; omega, fun _ => ⟨⟨by omega, (fun j hj => px57 j (by omega)), fun q => by unfold GM FOKd at q; rw [show ((a4.toInt.toNat : Nat) : Int) = a4.toInt by omega] at q; omega⟩, by omega⟩⟩⟩ hO56 hu56 (by omega) px58)
                  · have t71 := le_no c63
                    have t72 : gI h56 111 a2.toInt = gI h0 111 a2.toInt := gI_keep (a := 111) (kd := 0) (n := 6) hO0 hu56 _ (by decide) rfl (by decide) rfl (by decide) (by decide)
                    refine ur_ldI rfl rfl ?_
                    refine ur_i2lV rfl (fun y73 e74 => ?_)
                    have z75 := any_r a3
                    have t76 := tj_i2l e74
                    refine ur_push rfl ?_
                    refine ur_ldI rfl rfl ?_
                    refine ur_binV rfl (fun x77 e78 => ?_)
                    have t79 := ti_mulR e78 l_5 (by omega) (by omega)
                    refine ur_i2lV rfl (fun y80 e81 => ?_)
                    have z82 := any_r x77
                    have t83 := tj_i2l e81
                    refine ur_binJV rfl (fun y84 e85 => ?_)
                    have t86 := tj_add e85 (by omega) (by omega)
                    refine ur_svJk [some (.inr (.inr (some 69))), some (.inl a1), some (.inl a2), some (.inl a3), some (.inl a4), some (.inl x46), some (.inr (.inl y84)), none, u48, u49, u50, u51, u52] rfl rfl ?_
                    refine ur_ldJ rfl rfl ?_
                    refine ur_push rfl ?_
                    refine ur_cmpJV rfl (fun x87 e88 => ?_)
                    have t89 : ((0) : Int64).toInt = 0 := by decide
                    have t90 := tj_cmp e88
                    refine ur_if1 rfl (fun c91 => ?_) (fun c91 => ?_)
                    · have t92 := lt_to c91
                      refine ur_ldI rfl rfl ?_
                      obtain ⟨fs93, hc94⟩ := hO56.mod
                      obtain ⟨f95, p96, t97⟩ := mf_38 hO56 hc94
                      have t98 := fI_of hc94 p96
                      exact ur_ret rfl rfl (hQ _ _ ⟨_, rfl, ⟨fun q => absurd (by omega) q, fun q => by exfalso; omega, fun q => by exfalso; omega, fun _ => ⟨⟨by omega, px57, fun q => by unfold GM FOKd at q; rw [show ((x46.toInt.toNat : Nat) : Int) = x46.toInt by omega] at q; omega⟩, by omega⟩⟩⟩ hO56 hu56 (by omega) px58)
                    · have t99 := lt_no c91
                      refine ur_ldJ rfl rfl ?_
                      refine ur_push rfl ?_
                      refine ur_binJV rfl (fun y100 e101 => ?_)
                      have t102 : ((4) : Int64).toInt = 4 := by decide
                      have t103 : ((4) : Int64).toInt = 4 := by decide
                      have t104 := tj_add e101 (by omega) (by omega)
                      refine ur_ldA rfl rfl ?_
                      obtain ⟨fs105, hc106⟩ := hO56.mod
                      refine ur_get rfl hc106 (mf_66 hO56 hc106) ?_
                      refine ur_ldI rfl rfl ?_
                      obtain ⟨xs108, hc107, hn109, he110⟩ := hO56.int (hO56.fix 111 (by decide) rfl)
                      refine ur_aldV rfl hc107 hn109 (by omega) (fun x111 hx112 => ?_)
                      have t113 := gI_of (j := a2) hc107 hx112
                      have t114 : 0 ≤ x111.toInt ∧ x111.toInt ≤ 60 := he110 _ _ hx112
                      refine ur_i2lV rfl (fun y115 e116 => ?_)
                      have z117 := any_r x111
                      have t118 := tj_i2l e116
                      refine ur_cmpJV rfl (fun x119 e120 => ?_)
                      have t121 := tj_cmp e120
                      refine ur_if1 rfl (fun c122 => ?_) (fun c122 => ?_)
                      · have t123 := le_to c122
                        refine ur_ldI rfl rfl ?_
                        obtain ⟨f124, p125, t126⟩ := mf_38 hO56 hc106
                        have t127 := fI_of hc106 p125
                        exact ur_ret rfl rfl (hQ _ _ ⟨_, rfl, ⟨fun q => absurd (by omega) q, fun q => by exfalso; omega, fun q => by exfalso; omega, fun _ => ⟨⟨by omega, px57, fun q => by unfold GM FOKd at q; rw [show ((x46.toInt.toNat : Nat) : Int) = x46.toInt by omega] at q; omega⟩, by omega⟩⟩⟩ hO56 hu56 (by omega) px58)
                      · have t128 := le_no c122
                        refine ur_ldA rfl rfl ?_
                        obtain ⟨f129, p130, t131⟩ := mf_38 hO56 hc106
                        have t132 := fI_of hc106 p130
                        refine ur_get rfl hc106 p130 ?_
                        refine ur_push rfl ?_
                        refine ur_if2 rfl (fun c133 => ?_) (fun c133 => ?_)
                        · have t134 := ne_to c133
                          refine ur_push rfl ?_
                          refine ur_ldI rfl rfl ?_
                          refine ur_binV rfl (fun x135 e136 => ?_)
                          have z137 := any_r a2
                          have t138 := ti_mulR e136 l_60 (by omega) (by omega)
                          refine ur_ldJ rfl rfl ?_
                          refine ur_l2iV rfl (fun x139 e140 => ?_)
                          have t141 : -2147483648 ≤ y84.toInt ∧ y84.toInt ≤ 2147483647 → x139.toInt = y84.toInt := fun q => tj_l2i e140 q
                          have t142 : 0 ≤ x139.toInt ∧ x139.toInt ≤ 59 := by omega
                          refine ur_binV rfl (fun x143 e144 => ?_)
                          have z145 := any_r x135
                          have z146 := any_r x139
                          have t147 := ti_add e144 (by omega) (by omega)
                          refine ur_svIk [some (.inr (.inr (some 69))), some (.inl a1), some (.inl a2), some (.inl a3), some (.inl a4), some (.inl x46), some (.inr (.inl y84)), none, some (.inl x143), u49, u50, u51, u52] rfl rfl ?_
                          refine ur_ldA rfl rfl ?_
                          refine ur_get rfl hc106 (mf_67 hO56 hc106) ?_
                          refine ur_ldI rfl rfl ?_
                          obtain ⟨xs149, hc148, hn150⟩ := hO56.lon (hO56.fix 112 (by decide) rfl)
                          refine ur_aldJV rfl hc148 hn150 (by omega) (fun y152 hx153 => ?_)
                          have g154 := gL_of (j := x143) hc148 hx153
                          refine ur_l2iV rfl (fun x155 e156 => ?_)
                          have t157 : fl h56 112 x143.toInt = x155.toInt := by unfold fl; rw [g154, e156]
                          have t158 : fl h0 112 (60 * a2.toInt + (a3.toInt + 5 * x46.toInt) + 0) = x155.toInt := (fl_k112 hO0 hu56 (by decide) (by omega)).symm.trans t157
                          refine ur_svIk [some (.inr (.inr (some 69))), some (.inl a1), some (.inl a2), some (.inl a3), some (.inl a4), some (.inl x46), some (.inr (.inl y84)), none, some (.inl x143), some (.inl x155), u50, u51, u52] rfl rfl ?_
                          refine ur_ldA rfl rfl ?_
                          refine ur_get rfl hc106 (mf_67 hO56 hc106) ?_
                          refine ur_ldI rfl rfl ?_
                          refine ur_push rfl ?_
                          refine ur_binV rfl (fun x159 e160 => ?_)
                          have z161 := any_r x143
                          have t162 := ti_add e160 (by omega) (by omega)
                          refine ur_aldJV rfl hc148 hn150 (by omega) (fun y163 hx164 => ?_)
                          have g165 := gL_of (j := x159) hc148 hx164
                          refine ur_l2iV rfl (fun x166 e167 => ?_)
                          have t168 : fl h56 112 x159.toInt = x166.toInt := by unfold fl; rw [g165, e167]
                          have t169 : fl h0 112 (60 * a2.toInt + (a3.toInt + 5 * x46.toInt) + 1) = x166.toInt := (fl_k112 hO0 hu56 (by decide) (by omega)).symm.trans t168
                          refine ur_svIk [some (.inr (.inr (some 69))), some (.inl a1), some (.inl a2), some (.inl a3), some (.inl a4), some (.inl x46), some (.inr (.inl y84)), none, some (.inl x143), some (.inl x155), some (.inl x166), u51, u52] rfl rfl ?_
                          refine ur_ldA rfl rfl ?_
                          refine ur_get rfl hc106 (mf_67 hO56 hc106) ?_
                          refine ur_ldI rfl rfl ?_
                          refine ur_push rfl ?_
                          refine ur_binV rfl (fun x170 e171 => ?_)
                          have t172 := ti_add e171 (by omega) (by omega)
                          refine ur_aldJV rfl hc148 hn150 (by omega) (fun y173 hx174 => ?_)
                          have g175 := gL_of (j := x170) hc148 hx174
                          refine ur_l2iV rfl (fun x176 e177 => ?_)
                          have t178 : fl h56 112 x170.toInt = x176.toInt := by unfold fl; rw [g175, e177]
                          have t179 : fl h0 112 (60 * a2.toInt + (a3.toInt + 5 * x46.toInt) + 2) = x176.toInt := (fl_k112 hO0 hu56 (by decide) (by omega)).symm.trans t178
                          refine ur_svIk [some (.inr (.inr (some 69))), some (.inl a1), some (.inl a2), some (.inl a3), some (.inl a4), some (.inl x46), some (.inr (.inl y84)), none, some (.inl x143), some (.inl x155), some (.inl x166), some (.inl x176), u52] rfl rfl ?_
                          refine ur_ldA rfl rfl ?_
                          refine ur_get rfl hc106 (mf_67 hO56 hc106) ?_
                          refine ur_ldI rfl rfl ?_
                          refine ur_push rfl ?_
                          refine ur_binV rfl (fun x180 e181 => ?_)
                          have t182 := ti_add e181 (by omega) (by omega)
                          refine ur_aldJV rfl hc148 hn150 (by omega) (fun y183 hx184 => ?_)
                          have g185 := gL_of (j := x180) hc148 hx184
                          refine ur_l2iV rfl (fun x186 e187 => ?_)
                          have t188 : fl h56 112 x180.toInt = x186.toInt := by unfold fl; rw [g185, e187]
                          have t189 : fl h0 112 (60 * a2.toInt + (a3.toInt + 5 * x46.toInt) + 4) = x186.toInt := (fl_k112 hO0 hu56 (by decide) (by omega)).symm.trans t188
                          refine ur_svIk [some (.inr (.inr (some 69))), some (.inl a1), some (.inl a2), some (.inl a3), some (.inl a4), some (.inl x46), some (.inr (.inl y84)), none, some (.inl x143), some (.inl x155), some (.inl x166), some (.inl x176), some (.inl x186)] rfl rfl ?_
                          refine ur_ldI rfl rfl ?_
                          refine ur_push rfl ?_
                          refine ur_push rfl ?_
                          refine ur_callv rfl rfl (Nat.le_of_ble_eq_true rfl) (Nat.le_of_ble_eq_true rfl) rfl (sp_in _ _ _ _ _) ?_
                          refine ur_eqB rfl (fun c192 => ?_) (fun c192 => ?_)
                          · have t193 := wi_noL c192 l_0 l_9999
                            refine ur_ldI rfl rfl ?_
                            exact ur_ret rfl rfl (hQ _ _ ⟨_, rfl, ⟨fun q => absurd (by omega) q, fun q => by exfalso; omega, fun q => by exfalso; omega, fun _ => ⟨⟨by omega, px57, fun q => by unfold GM FOKd at q; rw [show ((x46.toInt.toNat : Nat) : Int) = x46.toInt by omega] at q; omega⟩, by omega⟩⟩⟩ hO56 hu56 (by omega) px58)
                          · have t194 := wi_toL c192 l_0 l_9999
                            refine ur_ldI rfl rfl ?_
                            refine ur_push rfl ?_
                            refine ur_push rfl ?_
                            refine ur_callv rfl rfl (Nat.le_of_ble_eq_true rfl) (Nat.le_of_ble_eq_true rfl) rfl (sp_in _ _ _ _ _) ?_
                            refine ur_eqB rfl (fun c197 => ?_) (fun c197 => ?_)
                            · have t198 := wi_noL c197 l_0 l_9999
                              refine ur_ldI rfl rfl ?_
                              exact ur_ret rfl rfl (hQ _ _ ⟨_, rfl, ⟨fun q => absurd (by omega) q, fun q => by exfalso; omega, fun q => by exfalso; omega, fun _ => ⟨⟨by omega, px57, fun q => by unfold GM FOKd at q; rw [show ((x46.toInt.toNat : Nat) : Int) = x46.toInt by omega] at q; omega⟩, by omega⟩⟩⟩ hO56 hu56 (by omega) px58)
                            · have t199 := wi_toL c197 l_0 l_9999
                              refine ur_ldI rfl rfl ?_
                              refine ur_push rfl ?_
                              refine ur_push rfl ?_
                              refine ur_callv rfl rfl (Nat.le_of_ble_eq_true rfl) (Nat.le_of_ble_eq_true rfl) rfl (sp_in _ _ _ _ _) ?_
                              refine ur_eqB rfl (fun c202 => ?_) (fun c202 => ?_)
                              · have t203 := wi_noL c202 l_0 l_9999
                                refine ur_ldI rfl rfl ?_
                                exact ur_ret rfl rfl (hQ _ _ ⟨_, rfl, ⟨fun q => absurd (by omega) q, fun q => by exfalso; omega, fun q => by exfalso; omega, fun _ => ⟨⟨by omega, px57, fun q => by unfold GM FOKd at q; rw [show ((x46.toInt.toNat : Nat) : Int) = x46.toInt by omega] at q; omega⟩, by omega⟩⟩⟩ hO56 hu56 (by omega) px58)
                              · have t204 := wi_toL c202 l_0 l_9999
                                refine ur_ldA rfl rfl ?_
                                refine ur_get rfl hc106 (mf_67 hO56 hc106) ?_
                                refine ur_ldI rfl rfl ?_
                                refine ur_push rfl ?_
                                refine ur_binV rfl (fun x205 e206 => ?_)
                                have t207 := ti_add e206 (by omega) (by omega)
                                refine ur_aldJV rfl hc148 hn150 (by omega) (fun y208 hx209 => ?_)
                                have g210 := gL_of (j := x205) hc148 hx209
                                refine ur_l2iV rfl (fun x211 e212 => ?_)
                                have t213 : fl h56 112 x205.toInt = x211.toInt := by unfold fl; rw [g210, e212]
                                have t214 : fl h0 112 (60 * a2.toInt + (a3.toInt + 5 * x46.toInt) + 3) = x211.toInt := (fl_k112 hO0 hu56 (by decide) (by omega)).symm.trans t213
                                refine ur_push rfl ?_
                                refine ur_push rfl ?_
                                refine ur_callv rfl rfl (Nat.le_of_ble_eq_true rfl) (Nat.le_of_ble_eq_true rfl) rfl (sp_in _ _ _ _ _) ?_
                                refine ur_eqB rfl (fun c217 => ?_) (fun c217 => ?_)
                                · have t218 := wi_noL c217 l_0 l_400
                                  refine ur_ldI rfl rfl ?_
                                  exact ur_ret rfl rfl (hQ _ _ ⟨_, rfl, ⟨fun q => absurd (by omega) q, fun q => by exfalso; omega, fun q => by exfalso; omega, fun _ => ⟨⟨by omega, px57, fun q => by unfold GM FOKd at q; rw [show ((x46.toInt.toNat : Nat) : Int) = x46.toInt by omega] at q; omega⟩, by omega⟩⟩⟩ hO56 hu56 (by omega) px58)
                                · have t219 := wi_toL c217 l_0 l_400
                                  refine ur_ldI rfl rfl ?_
                                  refine ur_if1 rfl (fun c220 => ?_) (fun c220 => ?_)
                                  · have t221 := eq_to c220
                                    refine ur_ldA rfl rfl ?_
                                    refine ur_ldI rfl rfl ?_
                                    refine ur_ldI rfl rfl ?_
                                    refine ur_ldI rfl rfl ?_
                                    refine ur_ldI rfl rfl ?_
                                    refine ur_ldI rfl rfl ?_
                                    refine ur_push rfl ?_
                                    refine ur_ldA rfl rfl ?_
                                    refine ur_get rfl hc106 (mf_67 hO56 hc106) ?_
                                    refine ur_ldI rfl rfl ?_
                                    refine ur_push rfl ?_
                                    refine ur_binV rfl (fun x222 e223 => ?_)
                                    have t224 := ti_add e223 (by omega) (by omega)
                                    refine ur_aldJV rfl hc148 hn150 (by omega) (fun y225 hx226 => ?_)
                                    have g227 := gL_of (j := x222) hc148 hx226
                                    refine ur_l2iV rfl (fun x228 e229 => ?_)
                                    refine ur_push rfl ?_
                                    refine ur_inl rfl (rcv_of hc106) (Nat.le_of_ble_eq_true rfl) (Nat.le_of_ble_eq_true rfl) (sf_X12_newWord hO56 px58 _ (by show 0 ≤ x186.toInt ∧ x186.toInt ≤ 7; omega) _ (by show 0 ≤ a1.toInt ∧ a1.toInt ≤ 8; omega) _ _ _ _ (by show -1 ≤ ((-1) : Int32).toInt ∧ ((-1) : Int32).toInt ≤ 19; omega) _ _ (by omega) (by omega) (by omega) (by omega) (fun w230 h234 hr231 hO234 hv234 hp232 hp233 => ?_))
                                    have hu234 := hv234
                                    obtain ⟨x235, rfl⟩ := hr231
                                    show uRun _ (uCall Mt _) _ 277 (_, [(.inl x235)], _, _, _)
                                    refine ur_pop rfl rfl ?_
                                    refine ur_incV (fun z => [some (.inr (.inr (some 69))), some (.inl a1), some (.inl a2), some (.inl a3), some (.inl a4), some (.inl z), some (.inr (.inl y84)), none, some (.inl x143), some (.inl x155), some (.inl x166), some (.inl x176), some (.inl x186)]) rfl rfl (fun _ => rfl) (fun x236 e237 => ?_)
                                    have t238 := ti_add e237 (by omega) (by omega)
                                    refine ur_go rfl ?_
                                    obtain ⟨fs239, hc240⟩ := hO234.mod
                                    obtain ⟨f241, p242, t243⟩ := mf_38 hO234 hc240
                                    have t244 := fI_of hc240 p242
                                    have z245 := any_r x236
                                    exact ih55 x236 _ _ _ _ _ _ _ hO234 (hu56.tr hu234) (by omega) (fun j hj => by by_cases q : (j : Int) < x46.toInt; exact px57 j q; have e : (j : Int) = x46.toInt := (by omega); unfold GM FOKd; rw [e]; omega) hp233 (by omega)
                                  · have t246 := eq_no c220
                                    refine ur_ldI rfl rfl ?_
                                    refine ur_push rfl ?_
                                    refine ur_if2 rfl (fun c247 => ?_) (fun c247 => ?_)
                                    · have t248 := eq_to c247
                                      refine ur_ldA rfl rfl ?_
                                      refine ur_ldI rfl rfl ?_
                                      refine ur_ldI rfl rfl ?_
                                      refine ur_ldI rfl rfl ?_
                                      refine ur_ldI rfl rfl ?_
                                      refine ur_ldI rfl rfl ?_
                                      refine ur_push rfl ?_
                                      refine ur_ldA rfl rfl ?_
                                      refine ur_get rfl hc106 (mf_67 hO56 hc106) ?_
                                      refine ur_ldI rfl rfl ?_
                                      refine ur_push rfl ?_
                                      refine ur_binV rfl (fun x249 e250 => ?_)
                                      have t251 := ti_add e250 (by omega) (by omega)
                                      refine ur_aldJV rfl hc148 hn150 (by omega) (fun y252 hx253 => ?_)
                                      have g254 := gL_of (j := x249) hc148 hx253
                                      refine ur_l2iV rfl (fun x255 e256 => ?_)
                                      refine ur_push rfl ?_
                                      refine ur_inl rfl (rcv_of hc106) (Nat.le_of_ble_eq_true rfl) (Nat.le_of_ble_eq_true rfl) (sf_X12_newWord hO56 px58 _ (by show 0 ≤ x186.toInt ∧ x186.toInt ≤ 7; omega) _ (by show 0 ≤ a1.toInt ∧ a1.toInt ≤ 8; omega) _ _ _ _ (by show -1 ≤ ((-1) : Int32).toInt ∧ ((-1) : Int32).toInt ≤ 19; omega) _ _ (by omega) (by omega) (by omega) (by omega) (fun w257 h261 hr258 hO261 hv261 hp259 hp260 => ?_))
                                      have hu261 := hv261
                                      obtain ⟨x262, rfl⟩ := hr258
                                      show uRun _ (uCall Mt _) _ 277 (_, [(.inl x262)], _, _, _)
                                      refine ur_pop rfl rfl ?_
                                      refine ur_incV (fun z => [some (.inr (.inr (some 69))), some (.inl a1), some (.inl a2), some (.inl a3), some (.inl a4), some (.inl z), some (.inr (.inl y84)), none, some (.inl x143), some (.inl x155), some (.inl x166), some (.inl x176), some (.inl x186)]) rfl rfl (fun _ => rfl) (fun x263 e264 => ?_)
                                      have t265 := ti_add e264 (by omega) (by omega)
                                      refine ur_go rfl ?_
                                      obtain ⟨fs266, hc267⟩ := hO261.mod
                                      obtain ⟨f268, p269, t270⟩ := mf_38 hO261 hc267
                                      have t271 := fI_of hc267 p269
                                      have z272 := any_r x263
                                      exact ih55 x263 _ _ _ _ _ _ _ hO261 (hu56.tr hu261) (by omega) (fun j hj => by by_cases q : (j : Int) < x46.toInt; exact px57 j q; have e : (j : Int) = x46.toInt := (by omega); unfold GM FOKd; rw [e]; omega) hp260 (by omega)
                                    · have t273 := eq_no c247
                                      refine ur_ldI rfl rfl ?_
                                      refine ur_push rfl ?_
                                      refine ur_if2 rfl (fun c274 => ?_) (fun c274 => ?_)
                                      · have t275 := eq_to c274
                                        refine ur_ldA rfl rfl ?_
                                        refine ur_ldI rfl rfl ?_
                                        refine ur_ldI rfl rfl ?_
                                        refine ur_ldI rfl rfl ?_
                                        refine ur_ldI rfl rfl ?_
                                        refine ur_ldI rfl rfl ?_
                                        refine ur_push rfl ?_
                                        refine ur_ldA rfl rfl ?_
                                        refine ur_get rfl hc106 (mf_67 hO56 hc106) ?_
                                        refine ur_ldI rfl rfl ?_
                                        refine ur_push rfl ?_
                                        refine ur_binV rfl (fun x276 e277 => ?_)
                                        have t278 := ti_add e277 (by omega) (by omega)
                                        refine ur_aldJV rfl hc148 hn150 (by omega) (fun y279 hx280 => ?_)
                                        have g281 := gL_of (j := x276) hc148 hx280
                                        refine ur_l2iV rfl (fun x282 e283 => ?_)
                                        refine ur_push rfl ?_
                                        refine ur_inl rfl (rcv_of hc106) (Nat.le_of_ble_eq_true rfl) (Nat.le_of_ble_eq_true rfl) (sf_X12_newWord hO56 px58 _ (by show 0 ≤ x186.toInt ∧ x186.toInt ≤ 7; omega) _ (by show 0 ≤ a1.toInt ∧ a1.toInt ≤ 8; omega) _ _ _ _ (by show -1 ≤ ((-1) : Int32).toInt ∧ ((-1) : Int32).toInt ≤ 19; omega) _ _ (by omega) (by omega) (by omega) (by omega) (fun w284 h288 hr285 hO288 hv288 hp286 hp287 => ?_))
                                        have hu288 := hv288
                                        obtain ⟨x289, rfl⟩ := hr285
                                        show uRun _ (uCall Mt _) _ 277 (_, [(.inl x289)], _, _, _)
                                        refine ur_pop rfl rfl ?_
                                        refine ur_incV (fun z => [some (.inr (.inr (some 69))), some (.inl a1), some (.inl a2), some (.inl a3), some (.inl a4), some (.inl z), some (.inr (.inl y84)), none, some (.inl x143), some (.inl x155), some (.inl x166), some (.inl x176), some (.inl x186)]) rfl rfl (fun _ => rfl) (fun x290 e291 => ?_)
                                        have t292 := ti_add e291 (by omega) (by omega)
                                        refine ur_go rfl ?_
                                        obtain ⟨fs293, hc294⟩ := hO288.mod
                                        obtain ⟨f295, p296, t297⟩ := mf_38 hO288 hc294
                                        have t298 := fI_of hc294 p296
                                        have z299 := any_r x290
                                        exact ih55 x290 _ _ _ _ _ _ _ hO288 (hu56.tr hu288) (by omega) (fun j hj => by by_cases q : (j : Int) < x46.toInt; exact px57 j q; have e : (j : Int) = x46.toInt := (by omega); unfold GM FOKd; rw [e]; omega) hp287 (by omega)
                                      · have t300 := eq_no c274
                                        refine ur_ldI rfl rfl ?_
                                        exact ur_ret rfl rfl (hQ _ _ ⟨_, rfl, ⟨fun q => absurd (by omega) q, fun q => by exfalso; omega, fun q => by exfalso; omega, fun _ => ⟨⟨by omega, px57, fun q => by unfold GM FOKd at q; rw [show ((x46.toInt.toNat : Nat) : Int) = x46.toInt by omega] at q; omega⟩, by omega⟩⟩⟩ hO56 hu56 (by omega) px58)
                        · have t301 := ne_no c133
                          refine ur_ldI rfl rfl ?_
                          exact ur_ret rfl rfl (hQ _ _ ⟨_, rfl, ⟨fun q => absurd (by omega) q, fun q => by exfalso; omega, fun q => by exfalso; omega, fun _ => ⟨⟨by omega, px57, fun q => by unfold GM FOKd at q; rw [show ((x46.toInt.toNat : Nat) : Int) = x46.toInt by omega] at q; omega⟩, by omega⟩⟩⟩ hO56 hu56 (by omega) px58)
              exact L53 _ 0 (none) (none) (none) (none) (none) (none) _ hO0 un.rf (by omega) (fun j hj => by exfalso; omega) hX0 (Nat.lt_succ_self _)
            · have t302 := ne_no c44
              exfalso
              omega
          · have t303 := eq_no c40
            refine ur_push rfl ?_
            exact ur_ret rfl rfl (hQ _ _ ⟨_, rfl, ⟨fun q => by omega, fun q => by omega, fun q => by omega, fun q => by exfalso; omega⟩⟩ hO0 un.rf (by omega) hX0)
      · have t304 := wi_noL c20 l_1 l_12
        refine ur_push rfl ?_
        exact ur_ret rfl rfl (hQ _ _ ⟨_, rfl, ⟨fun q => by omega, fun q => by omega, fun q => by omega, fun q => by exfalso; omega⟩⟩ hO0 un.rf (by omega) hX0)

set_option maxRecDepth 20000 in
set_option maxHeartbeats 4000000 in
theorem sd_X1_tellReign {d kc ks : Nat} {h0 : aH} {Q : Option aV → aH → Prop} (hO0 : OK h0) (a1 : Int32) (a2 : Int32) (a3 : Int32) (hQ : ∀ r h', (r = none) → OK h' → un [17, 18, 22010, 22011, 22012] h0 h' → (((0 ≤ a1.toInt ∧ a1.toInt ≤ 19) → arI h' 17 = (arI h0 17).set a1.toInt.toNat a2) ∧ (¬ (0 ≤ a1.toInt ∧ a1.toInt ≤ 19) → arI h' 17 = arI h0 17)) → Q r h') : uCall Mt (d + 6) 12 [(.inr (.inr (some 15))), (.inl a1), (.inl a2), (.inl a3)] h0 kc ks Q := by
  have l_0 : ((0) : Int32).toInt = 0 := by decide
  have l_1 : ((1) : Int32).toInt = 1 := by decide
  have l_19 : ((19) : Int32).toInt = 19 := by decide
  refine uc_ink [some (.inr (.inr (some 15))), some (.inl a1), some (.inl a2), some (.inl a3), none, none] mt_12 (Nat.le_of_ble_eq_true rfl) rfl ?_
  refine ur_ldI rfl rfl ?_
  refine ur_push rfl ?_
  refine ur_push rfl ?_
  refine ur_callv rfl rfl (Nat.le_of_ble_eq_true rfl) (Nat.le_of_ble_eq_true rfl) rfl (sp_within _ _ _ _ _) ?_
  refine ur_neB rfl (fun c3 => ?_) (fun c3 => ?_)
  · have t4 := wi_toL c3 l_0 l_19
    refine ur_ldA rfl rfl ?_
    obtain ⟨f6, f7, f8, f9, hc5, k10⟩ := ok_15 hO0
    refine ur_get rfl hc5 rfl ?_
    refine ur_ldI rfl rfl ?_
    refine ur_ldI rfl rfl ?_
    obtain ⟨xs12, hc11, hn13, he14⟩ := hO0.int (hO0.fix 17 (by decide) rfl)
    refine ur_astV (W := [17]) (m := 20) rfl hO0 hc11 (by decide) hn13 (by omega) (any_r _) (Or.inr (Or.inr (wid_fix (by decide) (by decide)))) (fun h17 hO17 hv17 d15 hc16 => ?_)
    have hu17 : un [17, 18, 22010, 22011, 22012] h0 h17 := hv17.mono (by decide)
    have w18 : wI h0 h17 17 ((arI h0 17).set (a1 : Int32).toInt.toNat a2) := ⟨by rw [arI_of hc16, arI_of hc11], d15⟩
    refine ur_ldA rfl rfl ?_
    refine ur_get rfl ((d15 _ (by decide)).trans hc5) rfl ?_
    refine ur_ldI rfl rfl ?_
    refine ur_ldI rfl rfl ?_
    obtain ⟨xs20, hc19, hn21, he22⟩ := hO17.int (hO17.fix 18 (by decide) rfl)
    refine ur_astV (W := [18]) (m := 20) rfl hO17 hc19 (by decide) hn21 (by omega) (any_r _) (Or.inr (Or.inr (wid_fix (by decide) (by decide)))) (fun h25 hO25 hv25 d23 hc24 => ?_)
    have hu25 : un [17, 18, 22010, 22011, 22012] h17 h25 := hv25.mono (by decide)
    have w26 : wI h17 h25 18 ((arI h17 18).set (a1 : Int32).toInt.toNat a3) := ⟨by rw [arI_of hc24, arI_of hc19], d23⟩
    have t27 : arI h25 17 = (arI h0 17).set (a1 : Int32).toInt.toNat a2 := (w26.oI (by decide)).trans w18.1
    refine ur_push rfl ?_
    refine ur_svIk [some (.inr (.inr (some 15))), some (.inl a1), some (.inl a2), some (.inl a3), some (.inl 0), none] rfl rfl ?_
    have L30 : ∀ (m31 : Nat) (x28 : Int32) (u29 : Option aV) (h33 : aH) , OK h33 → un [17, 18, 22010, 22011, 22012] h25 h33 → ((0 ≤ x28.toInt ∧ x28.toInt ≤ 2147483647)) → (arI h33 17 = arI h25 17) → ((2147483648 - x28.toInt).toNat) < m31 → uRun oX1_tellReign (uCall Mt (d + 5)) Q 28 ([some (.inr (.inr (some 15))), some (.inl a1), some (.inl a2), some (.inl a3), some (.inl x28), u29], [], h33, kc, ks) := by
      intro m31
      induction m31 with
      | zero => intro x28 u29 h33 hO33 hu33 iv35 px34 mm36; omega
      | succ m31 ih32 =>
        intro x28 u29 h33 hO33 hu33 iv35 px34 mm36
        refine ur_ldI rfl rfl ?_
        refine ur_ldA rfl rfl ?_
        refine ur_get rfl (hu33.ko (n := 11) ((d23 _ (by decide)).trans ((d15 _ (by decide)).trans hc5)) rfl (wid_f (by decide)) (by decide)) rfl ?_
        have z37 := any_r x28
        have z38 := any_r f6
        refine ur_if2 rfl (fun c39 => ?_) (fun c39 => ?_)
        · have t40 := le_to c39
          exact ur_ret0 rfl (hQ _ _ rfl hO33 (hu17.tr (hu25.tr hu33)) ⟨fun _ => px34.trans t27, fun q => absurd (by omega) q⟩)
        · have t41 := le_no c39
          refine ur_ldA rfl rfl ?_
          refine ur_ldI rfl rfl ?_
          have t42 := fO_of (k := 1) (hu33.ko (n := 11) ((d23 _ (by decide)).trans ((d15 _ (by decide)).trans hc5)) rfl (wid_f (by decide)) (by decide)) rfl
          refine ur_inl rfl (rcv_of (hu33.ko (n := 11) ((d23 _ (by decide)).trans ((d15 _ (by decide)).trans hc5)) rfl (wid_f (by decide)) (by decide))) (Nat.le_of_ble_eq_true rfl) (Nat.le_of_ble_eq_true rfl) (sd_X1_wordAt hO33 _ (((pre0.un hO0 hO17 hv17 (by decide) (by decide)).un hO17 hO25 hv25 (by decide) (by decide)).un hO25 hO33 hv33 (by decide) (by decide)) (fun w43 hr44 => ?_))
          obtain ⟨o45, rfl, k46, t47, t48⟩ := hr44
          show uRun _ (uCall Mt _) _ 43 (_, [(.inr (.inr o45))], _, _, _)
          refine ur_svAk [some (.inr (.inr (some 15))), some (.inl a1), some (.inl a2), some (.inl a3), some (.inl x28), some (.inr (.inr o45))] rfl rfl ?_
          refine ur_ldA rfl rfl ?_
          cases o45 with
          | none =>
            refine ur_nulN rfl ?_
            have t50 := t47 rfl
            refine ur_incV (fun z => [some (.inr (.inr (some 15))), some (.inl a1), some (.inl a2), some (.inl a3), some (.inl z), some (.inr (.inr none))]) rfl rfl (fun _ => rfl) (fun x51 e52 => ?_)
            have t53 := ti_add e52 (by omega) (by omega)
            refine ur_go rfl ?_
            have z54 := any_r x51
            exact ih32 x51 _ _ hO33 hu33 (by omega) px34 (by omega)
          | some r49 =>
            refine ur_nulS rfl ?_
            have k55 := k46 _ rfl
            have t56 := t48 _ rfl
            refine ur_ldA rfl rfl ?_
            obtain ⟨g73, f58, f59, f60, f61, f62, f63, f64, f65, f66, o70, f67, f68, f69, hc57, k71, k72⟩ := hO33.word k55.2
            refine ur_get rfl hc57 rfl ?_
            refine ur_ldI rfl rfl ?_
            have z74 := any_r f61
            have z75 := any_r a1
            refine ur_if2 rfl (fun c76 => ?_) (fun c76 => ?_)
            · have t77 := ne_to c76
              refine ur_incV (fun z => [some (.inr (.inr (some 15))), some (.inl a1), some (.inl a2), some (.inl a3), some (.inl z), some (.inr (.inr (some r49)))]) rfl rfl (fun _ => rfl) (fun x78 e79 => ?_)
              have t80 := ti_add e79 (by omega) (by omega)
              refine ur_go rfl ?_
              have z81 := any_r x78
              exact ih32 x78 _ _ hO33 hu33 (by omega) px34 (by omega)
            · have t82 := ne_no c76
              refine ur_ldA rfl rfl ?_
              refine ur_ldA rfl rfl ?_
              refine ur_inl rfl (rcv_of (hu33.ko (n := 11) ((d23 _ (by decide)).trans ((d15 _ (by decide)).trans hc5)) rfl (wid_f (by decide)) (by decide))) (Nat.le_of_ble_eq_true rfl) (Nat.le_of_ble_eq_true rfl) (sf_X1_settleSpans hO33 g73 k55.2 (fun w83 h85 hr84 hO85 hv85 => ?_))
              have hu85 : un [17, 18, 22010, 22011, 22012] h33 h85 := hv85.mono (by decide)
              subst hr84
              show uRun _ (uCall Mt _) _ 65 (_, [], _, _, _)
              refine ur_incV (fun z => [some (.inr (.inr (some 15))), some (.inl a1), some (.inl a2), some (.inl a3), some (.inl z), some (.inr (.inr (some r49)))]) rfl rfl (fun _ => rfl) (fun x86 e87 => ?_)
              have t88 := ti_add e87 (by omega) (by omega)
              refine ur_go rfl ?_
              have z89 := any_r x86
              exact ih32 x86 _ _ hO85 (hu33.tr hu85) (by omega) ((arI_keep (a := 17) (kd := 0) (n := 20) hO33 hv85 (by decide) rfl (by decide) rfl (by decide) (by decide)).trans px34) (by omega)
    exact L30 _ 0 (none) _ hO25 un.rf (by omega) rfl (Nat.lt_succ_self _)
  · have t90 := wi_noL c3 l_0 l_19
    exact ur_ret0 rfl (hQ _ _ rfl hO0 un.rf ⟨fun q => by exfalso; omega, fun _ => rfl⟩)

set_option maxRecDepth 20000 in
set_option maxHeartbeats 4000000 in
theorem se_X11_reign {d kc ks : Nat} {h0 : aH} {Q : Option aV → aH → Prop} (hO0 : OK h0) (a1 : Int32) (a2 : Int32) (a3 : Int32) (hQ : ∀ r h', (∃ x : Int32, r = some (.inl x) ∧ (x.toInt = 1 ∧ ((0 ≤ a1.toInt ∧ a1.toInt ≤ 19) ∧ (0 ≤ a2.toInt ∧ a2.toInt ≤ 999999) ∧ (-1 ≤ a3.toInt ∧ a3.toInt ≤ 999999)) ∨ x.toInt = -1 ∧ ¬ ((0 ≤ a1.toInt ∧ a1.toInt ≤ 19) ∧ (0 ≤ a2.toInt ∧ a2.toInt ≤ 999999) ∧ (-1 ≤ a3.toInt ∧ a3.toInt ≤ 999999)))) → OK h' → un [17, 18, 22010, 22011, 22012] h0 h' → ((((0 ≤ a1.toInt ∧ a1.toInt ≤ 19) ∧ (0 ≤ a2.toInt ∧ a2.toInt ≤ 999999) ∧ (-1 ≤ a3.toInt ∧ a3.toInt ≤ 999999)) → arI h' 17 = (arI h0 17).set a1.toInt.toNat a2) ∧ (¬ ((0 ≤ a1.toInt ∧ a1.toInt ≤ 19) ∧ (0 ≤ a2.toInt ∧ a2.toInt ≤ 999999) ∧ (-1 ≤ a3.toInt ∧ a3.toInt ≤ 999999)) → arI h' 17 = arI h0 17)) → Q r h') : uCall Mt (d + 7) 132 [(.inr (.inr (some 0))), (.inl a1), (.inl a2), (.inl a3)] h0 kc ks Q := by
  have l_m1 : ((-1) : Int32).toInt = -1 := by decide
  have l_0 : ((0) : Int32).toInt = 0 := by decide
  have l_1 : ((1) : Int32).toInt = 1 := by decide
  have l_19 : ((19) : Int32).toInt = 19 := by decide
  have l_999999 : ((999999) : Int32).toInt = 999999 := by decide
  refine uc_ink [some (.inr (.inr (some 0))), some (.inl a1), some (.inl a2), some (.inl a3)] mt_132 (Nat.le_of_ble_eq_true rfl) rfl ?_
  refine ur_ldI rfl rfl ?_
  refine ur_push rfl ?_
  refine ur_push rfl ?_
  refine ur_callv rfl rfl (Nat.le_of_ble_eq_true rfl) (Nat.le_of_ble_eq_true rfl) rfl (sp_within _ _ _ _ _) ?_
  refine ur_eqB rfl (fun c3 => ?_) (fun c3 => ?_)
  · have t4 := wi_noL c3 l_0 l_19
    refine ur_push rfl ?_
    exact ur_ret rfl rfl (hQ _ _ ⟨_, rfl, by omega⟩ hO0 un.rf ⟨fun q => by exfalso; omega, fun _ => rfl⟩)
  · have t5 := wi_toL c3 l_0 l_19
    refine ur_ldI rfl rfl ?_
    refine ur_callv rfl rfl (Nat.le_of_ble_eq_true rfl) (Nat.le_of_ble_eq_true rfl) rfl (sp_isDay _ _) ?_
    refine ur_eqB rfl (fun c8 => ?_) (fun c8 => ?_)
    · have t9 := wi_noL c8 l_0 l_999999
      refine ur_push rfl ?_
      exact ur_ret rfl rfl (hQ _ _ ⟨_, rfl, by omega⟩ hO0 un.rf ⟨fun q => by exfalso; omega, fun _ => rfl⟩)
    · have t10 := wi_toL c8 l_0 l_999999
      refine ur_ldI rfl rfl ?_
      refine ur_push rfl ?_
      refine ur_push rfl ?_
      refine ur_callv rfl rfl (Nat.le_of_ble_eq_true rfl) (Nat.le_of_ble_eq_true rfl) rfl (sp_within _ _ _ _ _) ?_
      refine ur_neB rfl (fun c13 => ?_) (fun c13 => ?_)
      · have t14 := wi_toL c13 l_m1 l_999999
        refine ur_ldA rfl rfl ?_
        obtain ⟨hc15, k16⟩ := ok_0 hO0
        refine ur_get rfl hc15 rfl ?_
        obtain ⟨f18, f19, hc17, k20⟩ := ok_41 hO0
        refine ur_inl rfl (rcv_of hc17) (Nat.le_of_ble_eq_true rfl) (Nat.le_of_ble_eq_true rfl) (sf_X7_forgetWeights hO0  (fun w21 h23 hr22 hO23 hv23 => ?_))
        have hu23 : un [17, 18, 22010, 22011, 22012] h0 h23 := hv23.mono (by decide)
        subst hr22
        show uRun _ (uCall Mt _) _ 36 (_, [], _, _, _)
        refine ur_ldA rfl rfl ?_
        refine ur_get rfl (hv23.ko (n := 8) hc15 rfl (wid_f (by decide)) (by decide)) rfl ?_
        refine ur_ldI rfl rfl ?_
        refine ur_ldI rfl rfl ?_
        refine ur_ldI rfl rfl ?_
        obtain ⟨f25, f26, f27, f28, hc24, k29⟩ := ok_15 hO23
        refine ur_inl rfl (rcv_of hc24) (Nat.le_of_ble_eq_true rfl) (Nat.le_of_ble_eq_true rfl) (sd_X1_tellReign hO23 _ _ _ (fun w30 h33 hr31 hO33 hv33 hp32 => ?_))
        have hu33 := hv33
        subst hr31
        show uRun _ (uCall Mt _) _ 46 (_, [], _, _, _)
        refine ur_push rfl ?_
        exact ur_ret rfl rfl (hQ _ _ ⟨_, rfl, by omega⟩ hO33 (hu23.tr hu33) ⟨fun _ => by rw [(hp32.1 (by omega)), show arI h23 17 = arI h0 17 from ((arI_keep (a := 17) (kd := 0) (n := 20) hO0 hv23 (by decide) rfl (by decide) rfl (by decide) (by decide)).trans rfl)], fun q => absurd (by omega) q⟩)
      · have t34 := wi_noL c13 l_m1 l_999999
        refine ur_push rfl ?_
        exact ur_ret rfl rfl (hQ _ _ ⟨_, rfl, by omega⟩ hO0 un.rf ⟨fun q => by exfalso; omega, fun _ => rfl⟩)

set_option maxRecDepth 20000 in
set_option maxHeartbeats 4000000 in
theorem se_X12_reign {d kc ks : Nat} {h0 : aH} {Q : Option aV → aH → Prop} (hO0 : OK h0) (a1 : Int32) (a2 : Int32) (a3 : Int32) (hQ : ∀ r h', (∃ x : Int32, r = some (.inl x) ∧ (x.toInt = 1 ∧ ((0 ≤ a1.toInt ∧ a1.toInt ≤ 19) ∧ (0 ≤ a2.toInt ∧ a2.toInt ≤ 999999) ∧ (-1 ≤ a3.toInt ∧ a3.toInt ≤ 999999)) ∨ x.toInt = -1 ∧ ¬ ((0 ≤ a1.toInt ∧ a1.toInt ≤ 19) ∧ (0 ≤ a2.toInt ∧ a2.toInt ≤ 999999) ∧ (-1 ≤ a3.toInt ∧ a3.toInt ≤ 999999)))) → OK h' → un [90, 91, 92] h0 h' → ((((0 ≤ a1.toInt ∧ a1.toInt ≤ 19) ∧ (0 ≤ a2.toInt ∧ a2.toInt ≤ 999999) ∧ (-1 ≤ a3.toInt ∧ a3.toInt ≤ 999999)) → ∃ v : Int32, (v.toInt = 1 ∨ v.toInt = 2) ∧ arI h' 91 = (arI h0 91).set a1.toInt.toNat v) ∧ (¬ ((0 ≤ a1.toInt ∧ a1.toInt ≤ 19) ∧ (0 ≤ a2.toInt ∧ a2.toInt ≤ 999999) ∧ (-1 ≤ a3.toInt ∧ a3.toInt ≤ 999999)) → h' = h0)) → Q r h') : uCall Mt (d + 3) 231 [(.inr (.inr (some 69))), (.inl a1), (.inl a2), (.inl a3)] h0 kc ks Q := by
  have l_m1 : ((-1) : Int32).toInt = -1 := by decide
  have l_0 : ((0) : Int32).toInt = 0 := by decide
  have l_1 : ((1) : Int32).toInt = 1 := by decide
  have l_2 : ((2) : Int32).toInt = 2 := by decide
  have l_19 : ((19) : Int32).toInt = 19 := by decide
  have l_999999 : ((999999) : Int32).toInt = 999999 := by decide
  refine uc_ink [some (.inr (.inr (some 69))), some (.inl a1), some (.inl a2), some (.inl a3)] mt_231 (Nat.le_of_ble_eq_true rfl) rfl ?_
  refine ur_ldI rfl rfl ?_
  refine ur_push rfl ?_
  refine ur_push rfl ?_
  refine ur_callv rfl rfl (Nat.le_of_ble_eq_true rfl) (Nat.le_of_ble_eq_true rfl) rfl (sp_in _ _ _ _ _) ?_
  refine ur_eqB rfl (fun c3 => ?_) (fun c3 => ?_)
  · have t4 := wi_noL c3 l_0 l_19
    refine ur_push rfl ?_
    exact ur_ret rfl rfl (hQ _ _ ⟨_, rfl, by omega⟩ hO0 un.rf ⟨fun q => by exfalso; omega, fun _ => rfl⟩)
  · have t5 := wi_toL c3 l_0 l_19
    refine ur_ldI rfl rfl ?_
    refine ur_callv rfl rfl (Nat.le_of_ble_eq_true rfl) (Nat.le_of_ble_eq_true rfl) rfl (sq_isDay _ _) ?_
    refine ur_eqB rfl (fun c8 => ?_) (fun c8 => ?_)
    · have t9 := wi_noL c8 l_0 l_999999
      refine ur_push rfl ?_
      exact ur_ret rfl rfl (hQ _ _ ⟨_, rfl, by omega⟩ hO0 un.rf ⟨fun q => by exfalso; omega, fun _ => rfl⟩)
    · have t10 := wi_toL c8 l_0 l_999999
      refine ur_ldI rfl rfl ?_
      refine ur_push rfl ?_
      refine ur_if2 rfl (fun c11 => ?_) (fun c11 => ?_)
      · have t12 := eq_to c11
        refine ur_ldA rfl rfl ?_
        obtain ⟨fs13, hc14⟩ := hO0.mod
        refine ur_get rfl hc14 (mf_31 hO0 hc14) ?_
        refine ur_ldI rfl rfl ?_
        refine ur_ldI rfl rfl ?_
        obtain ⟨xs16, hc15, hn17, he18⟩ := hO0.int (hO0.fix 90 (by decide) rfl)
        refine ur_astV (W := [90, 91, 92]) (m := 20) rfl hO0 hc15 (by decide) hn17 (by omega) (any_r _) (Or.inr (Or.inr (wid_fix (by decide) (by decide)))) (fun h21 hO21 hu21 d19 hc20 => ?_)
        have w22 : wI h0 h21 90 ((arI h0 90).set (a1 : Int32).toInt.toNat a2) := ⟨by rw [arI_of hc20, arI_of hc15], d19⟩
        refine ur_ldA rfl rfl ?_
        refine ur_get rfl ((d19 _ (by decide)).trans hc14) (mf_33 hO21 ((d19 _ (by decide)).trans hc14)) ?_
        refine ur_ldI rfl rfl ?_
        refine ur_ldI rfl rfl ?_
        obtain ⟨xs24, hc23, hn25, he26⟩ := hO21.int (hO21.fix 92 (by decide) rfl)
        refine ur_astV (W := [90, 91, 92]) (m := 20) rfl hO21 hc23 (by decide) hn25 (by omega) (any_r _) (Or.inr (Or.inr (wid_fix (by decide) (by decide)))) (fun h29 hO29 hu29 d27 hc28 => ?_)
        have w30 : wI h21 h29 92 ((arI h21 92).set (a1 : Int32).toInt.toNat a3) := ⟨by rw [arI_of hc28, arI_of hc23], d27⟩
        refine ur_ldA rfl rfl ?_
        refine ur_get rfl ((d27 _ (by decide)).trans ((d19 _ (by decide)).trans hc14)) (mf_32 hO29 ((d27 _ (by decide)).trans ((d19 _ (by decide)).trans hc14))) ?_
        refine ur_ldI rfl rfl ?_
        refine ur_ldI rfl rfl ?_
        refine ur_if1 rfl (fun c31 => ?_) (fun c31 => ?_)
        · have t32 := le_to c31
          exfalso
          omega
        · have t33 := le_no c31
          refine ur_push rfl ?_
          refine ur_go rfl ?_
          obtain ⟨xs35, hc34, hn36, he37⟩ := hO29.int (hO29.fix 91 (by decide) rfl)
          refine ur_astV (W := [90, 91, 92]) (m := 20) rfl hO29 hc34 (by decide) hn36 (by omega) (any_r _) (Or.inr (Or.inr (wid_fix (by decide) (by decide)))) (fun h40 hO40 hu40 d38 hc39 => ?_)
          have w41 : wI h29 h40 91 ((arI h29 91).set (a1 : Int32).toInt.toNat 1) := ⟨by rw [arI_of hc39, arI_of hc34], d38⟩
          refine ur_push rfl ?_
          exact ur_ret rfl rfl (hQ _ _ ⟨_, rfl, by omega⟩ hO40 (hu21.tr (hu29.tr hu40)) ⟨fun _ => ⟨1, by omega, by rw [w41.1, show arI h29 91 = arI h0 91 from ((w30.oI (by decide)).trans ((w22.oI (by decide)).trans rfl))]⟩, fun q => absurd (by omega) q⟩)
      · have t42 := eq_no c11
        refine ur_ldI rfl rfl ?_
        refine ur_callv rfl rfl (Nat.le_of_ble_eq_true rfl) (Nat.le_of_ble_eq_true rfl) rfl (sq_isDay _ _) ?_
        refine ur_neB rfl (fun c45 => ?_) (fun c45 => ?_)
        · have t46 := wi_toL c45 l_0 l_999999
          refine ur_ldA rfl rfl ?_
          obtain ⟨fs47, hc48⟩ := hO0.mod
          refine ur_get rfl hc48 (mf_31 hO0 hc48) ?_
          refine ur_ldI rfl rfl ?_
          refine ur_ldI rfl rfl ?_
          obtain ⟨xs50, hc49, hn51, he52⟩ := hO0.int (hO0.fix 90 (by decide) rfl)
          refine ur_astV (W := [90, 91, 92]) (m := 20) rfl hO0 hc49 (by decide) hn51 (by omega) (any_r _) (Or.inr (Or.inr (wid_fix (by decide) (by decide)))) (fun h55 hO55 hu55 d53 hc54 => ?_)
          have w56 : wI h0 h55 90 ((arI h0 90).set (a1 : Int32).toInt.toNat a2) := ⟨by rw [arI_of hc54, arI_of hc49], d53⟩
          refine ur_ldA rfl rfl ?_
          refine ur_get rfl ((d53 _ (by decide)).trans hc48) (mf_33 hO55 ((d53 _ (by decide)).trans hc48)) ?_
          refine ur_ldI rfl rfl ?_
          refine ur_ldI rfl rfl ?_
          obtain ⟨xs58, hc57, hn59, he60⟩ := hO55.int (hO55.fix 92 (by decide) rfl)
          refine ur_astV (W := [90, 91, 92]) (m := 20) rfl hO55 hc57 (by decide) hn59 (by omega) (any_r _) (Or.inr (Or.inr (wid_fix (by decide) (by decide)))) (fun h63 hO63 hu63 d61 hc62 => ?_)
          have w64 : wI h55 h63 92 ((arI h55 92).set (a1 : Int32).toInt.toNat a3) := ⟨by rw [arI_of hc62, arI_of hc57], d61⟩
          refine ur_ldA rfl rfl ?_
          refine ur_get rfl ((d61 _ (by decide)).trans ((d53 _ (by decide)).trans hc48)) (mf_32 hO63 ((d61 _ (by decide)).trans ((d53 _ (by decide)).trans hc48))) ?_
          refine ur_ldI rfl rfl ?_
          refine ur_ldI rfl rfl ?_
          refine ur_if1 rfl (fun c65 => ?_) (fun c65 => ?_)
          · have t66 := le_to c65
            refine ur_push rfl ?_
            obtain ⟨xs68, hc67, hn69, he70⟩ := hO63.int (hO63.fix 91 (by decide) rfl)
            refine ur_astV (W := [90, 91, 92]) (m := 20) rfl hO63 hc67 (by decide) hn69 (by omega) (any_r _) (Or.inr (Or.inr (wid_fix (by decide) (by decide)))) (fun h73 hO73 hu73 d71 hc72 => ?_)
            have w74 : wI h63 h73 91 ((arI h63 91).set (a1 : Int32).toInt.toNat 2) := ⟨by rw [arI_of hc72, arI_of hc67], d71⟩
            refine ur_push rfl ?_
            exact ur_ret rfl rfl (hQ _ _ ⟨_, rfl, by omega⟩ hO73 (hu55.tr (hu63.tr hu73)) ⟨fun _ => ⟨2, by omega, by rw [w74.1, show arI h63 91 = arI h0 91 from ((w64.oI (by decide)).trans ((w56.oI (by decide)).trans rfl))]⟩, fun q => absurd (by omega) q⟩)
          · have t75 := le_no c65
            exfalso
            omega
        · have t76 := wi_noL c45 l_0 l_999999
          refine ur_push rfl ?_
          exact ur_ret rfl rfl (hQ _ _ ⟨_, rfl, by omega⟩ hO0 un.rf ⟨fun q => by exfalso; omega, fun _ => rfl⟩)
end RWD
