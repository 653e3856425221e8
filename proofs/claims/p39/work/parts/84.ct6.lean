/-! CONTRACTS of the reference, the third part, printed by program -/
section CT6
set_option maxRecDepth 20000 in
set_option maxHeartbeats 4000000 in
theorem sf_X12_worked {d kc ks : Nat} {h0 : aH} {Q : Option aV → aH → Prop} (hO0 : OK h0) (a1 : Int32) (b1 : 0 ≤ a1.toInt ∧ a1.toInt ≤ 10) (a2 : Int32) (b2 : 0 ≤ a2.toInt ∧ a2.toInt ≤ 130) (a3 : Int32) (b3 : 0 ≤ a3.toInt ∧ a3.toInt ≤ 130) (pre0 : a2.toInt ≤ a3.toInt) (pre1 : txs h0 (iN a1) (iN a2) (iN a3)) (hQ : ∀ r h', (∃ x, r = some (.inl x)) → OK h' → un [] h0 h' → Q r h') : uCall Mt (d + 2) 229 [(.inr (.inr (some 69))), (.inl a1), (.inl a2), (.inl a3)] h0 kc ks Q := by
  have l_m1 : ((-1) : Int32).toInt = -1 := by decide
  have l_0 : ((0) : Int32).toInt = 0 := by decide
  have l_1 : ((1) : Int32).toInt = 1 := by decide
  have l_2 : ((2) : Int32).toInt = 2 := by decide
  have l_3 : ((3) : Int32).toInt = 3 := by decide
  have l_4 : ((4) : Int32).toInt = 4 := by decide
  have l_130 : ((130) : Int32).toInt = 130 := by decide
  refine uc_ink [some (.inr (.inr (some 69))), some (.inl a1), some (.inl a2), some (.inl a3), none, none, none] mt_229 (Nat.le_of_ble_eq_true rfl) rfl ?_
  refine ur_push rfl ?_
  refine ur_svIk [some (.inr (.inr (some 69))), some (.inl a1), some (.inl a2), some (.inl a3), some (.inl 0), none, none] rfl rfl ?_
  refine ur_push rfl ?_
  refine ur_ldI rfl rfl ?_
  refine ur_binV rfl (fun x1 e2 => ?_)
  have z3 := any_r a1
  have t4 := ti_mulR e2 l_130 (by omega) (by omega)
  refine ur_ldI rfl rfl ?_
  refine ur_binV rfl (fun x5 e6 => ?_)
  have z7 := any_r x1
  have z8 := any_r a2
  have t9 := ti_add e6 (by omega) (by omega)
  refine ur_svIk [some (.inr (.inr (some 69))), some (.inl a1), some (.inl a2), some (.inl a3), some (.inl 0), some (.inl x5), none] rfl rfl ?_
  have L13 : ∀ (m14 : Nat) (x10 : Int32) (x11 : Int32) (u12 : Option aV) (h16 : aH) , OK h16 → un [] h0 h16 → ((0 ≤ x10.toInt ∧ x10.toInt ≤ 130) ∧ (0 ≤ x11.toInt ∧ x11.toInt ≤ 1559) ∧ x10.toInt + 130 * a1.toInt + a2.toInt ≤ x11.toInt) → (txr h0 (iN x11) (130 * iN a1 + iN a3) (iN x10)) → ((1560 - x11.toInt).toNat) < m14 → uRun oX12_worked (uCall Mt (d + 1)) Q 12 ([some (.inr (.inr (some 69))), some (.inl a1), some (.inl a2), some (.inl a3), some (.inl x10), some (.inl x11), u12], [], h16, kc, ks) := by
    intro m14
    induction m14 with
    | zero => intro x10 x11 u12 h16 hO16 hu16 iv18 px17 mm19; omega
    | succ m14 ih15 =>
      intro x10 x11 u12 h16 hO16 hu16 iv18 px17 mm19
      refine ur_ldI rfl rfl ?_
      refine ur_push rfl ?_
      refine ur_ldI rfl rfl ?_
      refine ur_binV rfl (fun x20 e21 => ?_)
      have t22 := ti_mulR e21 l_130 (by omega) (by omega)
      refine ur_ldI rfl rfl ?_
      refine ur_binV rfl (fun x23 e24 => ?_)
      have z25 := any_r x20
      have z26 := any_r a3
      have t27 := ti_add e24 (by omega) (by omega)
      have z28 := any_r x11
      have z29 := any_r x23
      refine ur_if2 rfl (fun c30 => ?_) (fun c30 => ?_)
      · have t31 := le_to c30
        refine ur_ldA rfl rfl ?_
        obtain ⟨fs32, hc33⟩ := hO16.mod
        refine ur_get rfl hc33 (mf_30 hO16 hc33) ?_
        refine ur_push rfl ?_
        obtain ⟨xs35, hc34, hn36, he37⟩ := hO16.int (hO16.fix 89 (by decide) rfl)
        refine ur_aldV rfl hc34 hn36 (by omega) (fun x38 hx39 => ?_)
        exact ur_ret rfl rfl (hQ _ _ ⟨_, rfl⟩ hO16 hu16)
      · have t40 := le_no c30
        refine ur_ldA rfl rfl ?_
        obtain ⟨fs41, hc42⟩ := hO16.mod
        refine ur_get rfl hc42 (mf_24 hO16 hc42) ?_
        refine ur_ldI rfl rfl ?_
        obtain ⟨xs44, hc43, hn45, he46⟩ := hO16.byt (hO16.fix 83 (by decide) rfl)
        refine ur_aldV rfl hc43 hn45 (by omega) (fun x47 hx48 => ?_)
        have t49 : 0 ≤ x47.toInt ∧ x47.toInt ≤ 124 := he46 _ _ hx48
        obtain ⟨xs51, hc50, hn52, he53⟩ := hO16.int (hO16.fix 84 (by decide) rfl)
        obtain ⟨S54, S55, S56, S57, S58, S59, S60⟩ := wk_step (k := x11) (n := x10) hO0 hu16 (by decide) (by decide) hc43 hc50 hn52 hx48 (by omega) px17 (by unfold iN; omega)
        unfold iN at S59 S60
        refine ur_svIk [some (.inr (.inr (some 69))), some (.inl a1), some (.inl a2), some (.inl a3), some (.inl x10), some (.inl x11), some (.inl x47)] rfl rfl ?_
        refine ur_ldI rfl rfl ?_
        refine ur_push rfl ?_
        refine ur_if2 rfl (fun c61 => ?_) (fun c61 => ?_)
        · have t62 := eq_to c61
          refine ur_ldA rfl rfl ?_
          refine ur_get rfl hc42 (mf_30 hO16 hc42) ?_
          refine ur_ldI rfl rfl ?_
          refine ur_ldI rfl rfl ?_
          refine ur_push rfl ?_
          refine ur_if2 rfl (fun c63 => ?_) (fun c63 => ?_)
          · have t64 := ne_to c63
            exfalso
            omega
          · have t65 := ne_no c63
            refine ur_ldA rfl rfl ?_
            refine ur_get rfl hc42 (mf_25 hO16 hc42) ?_
            refine ur_ldI rfl rfl ?_
            refine ur_aldV rfl hc50 hn52 (by omega) (fun x66 hx67 => ?_)
            refine ur_go rfl ?_
            obtain ⟨xs69, hc68, hn70, he71⟩ := hO16.int (hO16.fix 89 (by decide) rfl)
            refine ur_astV (W := []) (m := 130) rfl hO16 hc68 (by decide) hn70 (by omega) (any_r _) (Or.inl rfl) (fun h74 hO74 hu74 d72 hc73 => ?_)
            refine ur_incV (fun z => [some (.inr (.inr (some 69))), some (.inl a1), some (.inl a2), some (.inl a3), some (.inl z), some (.inl x11), some (.inl x47)]) rfl rfl (fun _ => rfl) (fun x75 e76 => ?_)
            have z77 := any_r x10
            have t78 := ti_add e76 (by omega) (by omega)
            refine ur_go rfl ?_
            refine ur_incV (fun z => [some (.inr (.inr (some 69))), some (.inl a1), some (.inl a2), some (.inl a3), some (.inl x75), some (.inl z), some (.inl x47)]) rfl rfl (fun _ => rfl) (fun x79 e80 => ?_)
            have t81 := ti_add e80 (by omega) (by omega)
            refine ur_go rfl ?_
            have z82 := any_r x75
            have z83 := any_r x79
            exact ih15 x75 x79 _ _ hO74 (hu16.tr hu74) (by omega) (by first | exact S54 (by omega) _ _ (by unfold iN; omega) (by unfold iN; omega) | exact S55 (by omega) _ _ (by unfold iN; omega) (by unfold iN; omega) | exact S56 (by omega) _ _ (by unfold iN; omega) (by unfold iN; omega) | exact S57 (by omega) _ _ (by unfold iN; omega) (by unfold iN; omega)) (by omega)
        · have t84 := eq_no c61
          refine ur_ldI rfl rfl ?_
          refine ur_push rfl ?_
          refine ur_if2 rfl (fun c85 => ?_) (fun c85 => ?_)
          · have t86 := ne_to c85
            refine ur_ldI rfl rfl ?_
            refine ur_push rfl ?_
            refine ur_if2 rfl (fun c87 => ?_) (fun c87 => ?_)
            · have t88 := ne_to c87
              refine ur_ldI rfl rfl ?_
              refine ur_push rfl ?_
              refine ur_if2 rfl (fun c89 => ?_) (fun c89 => ?_)
              · have t90 := ne_to c89
                refine ur_incV (fun z => [some (.inr (.inr (some 69))), some (.inl a1), some (.inl a2), some (.inl a3), some (.inl z), some (.inl x11), some (.inl x47)]) rfl rfl (fun _ => rfl) (fun x91 e92 => ?_)
                have z93 := any_r x10
                have t94 := ti_add e92 (by omega) (by omega)
                refine ur_ldA rfl rfl ?_
                refine ur_get rfl hc42 (mf_30 hO16 hc42) ?_
                refine ur_ldI rfl rfl ?_
                refine ur_push rfl ?_
                refine ur_binV rfl (fun x95 e96 => ?_)
                have z97 := any_r x91
                have t98 := ti_sub e96 (by omega) (by omega)
                refine ur_ldI rfl rfl ?_
                refine ur_ldA rfl rfl ?_
                refine ur_get rfl hc42 (mf_30 hO16 hc42) ?_
                refine ur_ldI rfl rfl ?_
                refine ur_push rfl ?_
                refine ur_binV rfl (fun x99 e100 => ?_)
                have t101 := ti_sub e100 (by omega) (by omega)
                obtain ⟨xs103, hc102, hn104, he105⟩ := hO16.int (hO16.fix 89 (by decide) rfl)
                refine ur_aldV rfl hc102 hn104 (by omega) (fun x106 hx107 => ?_)
                refine ur_ldA rfl rfl ?_
                refine ur_get rfl hc42 (mf_30 hO16 hc42) ?_
                refine ur_ldI rfl rfl ?_
                refine ur_aldV rfl hc102 hn104 (by omega) (fun x108 hx109 => ?_)
                refine ur_inl rfl rfl (Nat.le_of_ble_eq_true rfl) (Nat.le_of_ble_eq_true rfl) (sf_X12_twoOf _ _ _ (fun w110 hr111 => ?_))
                obtain ⟨x112, rfl⟩ := hr111
                show uRun _ (uCall Mt _) _ 181 (_, [(.inl x112), (.inl x95), (.inr (.inr (some 89)))], _, _, _)
                refine ur_astV (W := []) (m := 130) rfl hO16 hc102 (by decide) hn104 (by omega) (any_r _) (Or.inl rfl) (fun h115 hO115 hu115 d113 hc114 => ?_)
                refine ur_incV (fun z => [some (.inr (.inr (some 69))), some (.inl a1), some (.inl a2), some (.inl a3), some (.inl x91), some (.inl z), some (.inl x47)]) rfl rfl (fun _ => rfl) (fun x116 e117 => ?_)
                have t118 := ti_add e117 (by omega) (by omega)
                refine ur_go rfl ?_
                have z119 := any_r x116
                exact ih15 x91 x116 _ _ hO115 (hu16.tr hu115) (by omega) (by first | exact S54 (by omega) _ _ (by unfold iN; omega) (by unfold iN; omega) | exact S55 (by omega) _ _ (by unfold iN; omega) (by unfold iN; omega) | exact S56 (by omega) _ _ (by unfold iN; omega) (by unfold iN; omega) | exact S57 (by omega) _ _ (by unfold iN; omega) (by unfold iN; omega)) (by omega)
              · have t120 := ne_no c89
                refine ur_ldA rfl rfl ?_
                refine ur_get rfl hc42 (mf_30 hO16 hc42) ?_
                refine ur_ldI rfl rfl ?_
                refine ur_push rfl ?_
                refine ur_binV rfl (fun x121 e122 => ?_)
                have z123 := any_r x10
                have t124 := ti_sub e122 (by omega) (by omega)
                refine ur_ldA rfl rfl ?_
                refine ur_get rfl hc42 (mf_30 hO16 hc42) ?_
                refine ur_ldI rfl rfl ?_
                refine ur_push rfl ?_
                refine ur_binV rfl (fun x125 e126 => ?_)
                have t127 := ti_sub e126 (by omega) (by omega)
                obtain ⟨xs129, hc128, hn130, he131⟩ := hO16.int (hO16.fix 89 (by decide) rfl)
                refine ur_aldV rfl hc128 hn130 (by omega) (fun x132 hx133 => ?_)
                refine ur_unV rfl (fun x134 e135 => ?_)
                have z136 := any_r x132
                refine ur_astV (W := []) (m := 130) rfl hO16 hc128 (by decide) hn130 (by omega) (any_r _) (Or.inl rfl) (fun h139 hO139 hu139 d137 hc138 => ?_)
                refine ur_go rfl ?_
                refine ur_incV (fun z => [some (.inr (.inr (some 69))), some (.inl a1), some (.inl a2), some (.inl a3), some (.inl x10), some (.inl z), some (.inl x47)]) rfl rfl (fun _ => rfl) (fun x140 e141 => ?_)
                have t142 := ti_add e141 (by omega) (by omega)
                refine ur_go rfl ?_
                have z143 := any_r x140
                exact ih15 x10 x140 _ _ hO139 (hu16.tr hu139) (by omega) (by first | exact S54 (by omega) _ _ (by unfold iN; omega) (by unfold iN; omega) | exact S55 (by omega) _ _ (by unfold iN; omega) (by unfold iN; omega) | exact S56 (by omega) _ _ (by unfold iN; omega) (by unfold iN; omega) | exact S57 (by omega) _ _ (by unfold iN; omega) (by unfold iN; omega)) (by omega)
            · have t144 := ne_no c87
              refine ur_ldA rfl rfl ?_
              refine ur_get rfl hc42 (mf_30 hO16 hc42) ?_
              refine ur_ldI rfl rfl ?_
              refine ur_push rfl ?_
              refine ur_binV rfl (fun x145 e146 => ?_)
              have z147 := any_r x10
              have t148 := ti_sub e146 (by omega) (by omega)
              refine ur_ldA rfl rfl ?_
              refine ur_get rfl hc42 (mf_30 hO16 hc42) ?_
              refine ur_ldI rfl rfl ?_
              refine ur_push rfl ?_
              refine ur_binV rfl (fun x149 e150 => ?_)
              have t151 := ti_sub e150 (by omega) (by omega)
              obtain ⟨xs153, hc152, hn154, he155⟩ := hO16.int (hO16.fix 89 (by decide) rfl)
              refine ur_aldV rfl hc152 hn154 (by omega) (fun x156 hx157 => ?_)
              refine ur_if1 rfl (fun c158 => ?_) (fun c158 => ?_)
              · have t159 := ne_to c158
                refine ur_push rfl ?_
                refine ur_astV (W := []) (m := 130) rfl hO16 hc152 (by decide) hn154 (by omega) (any_r _) (Or.inl rfl) (fun h162 hO162 hu162 d160 hc161 => ?_)
                refine ur_go rfl ?_
                refine ur_incV (fun z => [some (.inr (.inr (some 69))), some (.inl a1), some (.inl a2), some (.inl a3), some (.inl x10), some (.inl z), some (.inl x47)]) rfl rfl (fun _ => rfl) (fun x163 e164 => ?_)
                have t165 := ti_add e164 (by omega) (by omega)
                refine ur_go rfl ?_
                have z166 := any_r x163
                exact ih15 x10 x163 _ _ hO162 (hu16.tr hu162) (by omega) (by first | exact S54 (by omega) _ _ (by unfold iN; omega) (by unfold iN; omega) | exact S55 (by omega) _ _ (by unfold iN; omega) (by unfold iN; omega) | exact S56 (by omega) _ _ (by unfold iN; omega) (by unfold iN; omega) | exact S57 (by omega) _ _ (by unfold iN; omega) (by unfold iN; omega)) (by omega)
              · have t167 := ne_no c158
                refine ur_push rfl ?_
                refine ur_go rfl ?_
                refine ur_astV (W := []) (m := 130) rfl hO16 hc152 (by decide) hn154 (by omega) (any_r _) (Or.inl rfl) (fun h170 hO170 hu170 d168 hc169 => ?_)
                refine ur_go rfl ?_
                refine ur_incV (fun z => [some (.inr (.inr (some 69))), some (.inl a1), some (.inl a2), some (.inl a3), some (.inl x10), some (.inl z), some (.inl x47)]) rfl rfl (fun _ => rfl) (fun x171 e172 => ?_)
                have t173 := ti_add e172 (by omega) (by omega)
                refine ur_go rfl ?_
                have z174 := any_r x171
                exact ih15 x10 x171 _ _ hO170 (hu16.tr hu170) (by omega) (by first | exact S54 (by omega) _ _ (by unfold iN; omega) (by unfold iN; omega) | exact S55 (by omega) _ _ (by unfold iN; omega) (by unfold iN; omega) | exact S56 (by omega) _ _ (by unfold iN; omega) (by unfold iN; omega) | exact S57 (by omega) _ _ (by unfold iN; omega) (by unfold iN; omega)) (by omega)
          · have t175 := ne_no c85
            refine ur_ldA rfl rfl ?_
            refine ur_get rfl hc42 (mf_30 hO16 hc42) ?_
            refine ur_ldI rfl rfl ?_
            refine ur_ldI rfl rfl ?_
            refine ur_push rfl ?_
            refine ur_if2 rfl (fun c176 => ?_) (fun c176 => ?_)
            · have t177 := ne_to c176
              refine ur_ldA rfl rfl ?_
              refine ur_get rfl hc42 (mf_29 hO16 hc42) ?_
              refine ur_ldA rfl rfl ?_
              refine ur_get rfl hc42 (mf_25 hO16 hc42) ?_
              refine ur_ldI rfl rfl ?_
              refine ur_aldV rfl hc50 hn52 (by omega) (fun x178 hx179 => ?_)
              have t180 := S58 _ hx179 (by omega)
              obtain ⟨xs182, hc181, hn183, he184⟩ := hO16.int (hO16.fix 88 (by decide) rfl)
              refine ur_aldV rfl hc181 hn183 (by omega) (fun x185 hx186 => ?_)
              obtain ⟨xs188, hc187, hn189, he190⟩ := hO16.int (hO16.fix 89 (by decide) rfl)
              refine ur_astV (W := []) (m := 130) rfl hO16 hc187 (by decide) hn189 (by omega) (any_r _) (Or.inl rfl) (fun h193 hO193 hu193 d191 hc192 => ?_)
              refine ur_incV (fun z => [some (.inr (.inr (some 69))), some (.inl a1), some (.inl a2), some (.inl a3), some (.inl z), some (.inl x11), some (.inl x47)]) rfl rfl (fun _ => rfl) (fun x194 e195 => ?_)
              have z196 := any_r x10
              have t197 := ti_add e195 (by omega) (by omega)
              refine ur_go rfl ?_
              refine ur_incV (fun z => [some (.inr (.inr (some 69))), some (.inl a1), some (.inl a2), some (.inl a3), some (.inl x194), some (.inl z), some (.inl x47)]) rfl rfl (fun _ => rfl) (fun x198 e199 => ?_)
              have t200 := ti_add e199 (by omega) (by omega)
              refine ur_go rfl ?_
              have z201 := any_r x194
              have z202 := any_r x198
              exact ih15 x194 x198 _ _ hO193 (hu16.tr hu193) (by omega) (by first | exact S54 (by omega) _ _ (by unfold iN; omega) (by unfold iN; omega) | exact S55 (by omega) _ _ (by unfold iN; omega) (by unfold iN; omega) | exact S56 (by omega) _ _ (by unfold iN; omega) (by unfold iN; omega) | exact S57 (by omega) _ _ (by unfold iN; omega) (by unfold iN; omega)) (by omega)
            · have t203 := ne_no c176
              exfalso
              omega
  have z204 := any_r x5
  exact L13 _ 0 x5 (none) _ hO0 un.rf (by omega) (by rw [show iN x5 = 130 * iN a1 + iN a2 by unfold iN; omega]; exact pre1) (Nat.lt_succ_self _)

set_option maxRecDepth 20000 in
set_option maxHeartbeats 4000000 in
theorem sf_X12_gives {d kc ks : Nat} {h0 : aH} {Q : Option aV → aH → Prop} (hO0 : OK h0) (hX0 : SX h0) (a1 : Int32) (b1 : 0 ≤ a1.toInt ∧ a1.toInt ≤ 10) (hQ : ∀ r h', (∃ x, r = some (.inl x)) → OK h' → un [] h0 h' → Q r h') : uCall Mt (d + 3) 230 [(.inr (.inr (some 69))), (.inl a1)] h0 kc ks Q := by
  have l_0 : ((0) : Int32).toInt = 0 := by decide
  have l_1 : ((1) : Int32).toInt = 1 := by decide
  have l_61 : ((61) : Int32).toInt = 61 := by decide
  refine uc_ink [some (.inr (.inr (some 69))), some (.inl a1), none, none] mt_230 (Nat.le_of_ble_eq_true rfl) rfl ?_
  refine ur_push rfl ?_
  refine ur_svIk [some (.inr (.inr (some 69))), some (.inl a1), some (.inl 0), none] rfl rfl ?_
  refine ur_push rfl ?_
  refine ur_ldI rfl rfl ?_
  refine ur_binV rfl (fun x1 e2 => ?_)
  have z3 := any_r a1
  have t4 := ti_mulR e2 l_61 (by omega) (by omega)
  refine ur_svIk [some (.inr (.inr (some 69))), some (.inl a1), some (.inl 0), some (.inl x1)] rfl rfl ?_
  have L7 : ∀ (m8 : Nat) (x5 : Int32) (x6 : Int32) (h10 : aH) , OK h10 → un [] h0 h10 → ((0 ≤ x5.toInt ∧ x5.toInt ≤ 130) ∧ (0 ≤ x6.toInt ∧ x6.toInt ≤ 731) ∧ 61 * a1.toInt ≤ x6.toInt) → (iN x5 = frL h0 (iN a1) (iN x6 - 61 * iN a1)) → ((1000 - x6.toInt).toNat) < m8 → uRun oX12_gives (uCall Mt (d + 2)) Q 7 ([some (.inr (.inr (some 69))), some (.inl a1), some (.inl x5), some (.inl x6)], [], h10, kc, ks) := by
    intro m8
    induction m8 with
    | zero => intro x5 x6 h10 hO10 hu10 iv12 px11 mm13; omega
    | succ m8 ih9 =>
      intro x5 x6 h10 hO10 hu10 iv12 px11 mm13
      refine ur_ldI rfl rfl ?_
      refine ur_push rfl ?_
      refine ur_ldI rfl rfl ?_
      refine ur_binV rfl (fun x14 e15 => ?_)
      have t16 := ti_mulR e15 l_61 (by omega) (by omega)
      refine ur_ldA rfl rfl ?_
      obtain ⟨fs17, hc18⟩ := hO10.mod
      refine ur_get rfl hc18 (mf_26 hO10 hc18) ?_
      refine ur_ldI rfl rfl ?_
      obtain ⟨xs20, hc19, hn21, he22⟩ := hO10.int (hO10.fix 85 (by decide) rfl)
      refine ur_aldV rfl hc19 hn21 (by omega) (fun x23 hx24 => ?_)
      have t25 : 0 ≤ x23.toInt ∧ x23.toInt ≤ 61 := he22 _ _ hx24
      refine ur_binV rfl (fun x26 e27 => ?_)
      have z28 := any_r x14
      have z29 := any_r x23
      have t30 := ti_add e27 (by omega) (by omega)
      have z31 := any_r x6
      have z32 := any_r x26
      refine ur_if2 rfl (fun c33 => ?_) (fun c33 => ?_)
      · have t34 := le_to c33
        refine ur_push rfl ?_
        exact ur_ret rfl rfl (hQ _ _ ⟨_, rfl⟩ hO10 hu10)
      · have t35 := le_no c33
        obtain ⟨xs37, hc36, hn38, he39⟩ := hO10.sho (hO10.fix 86 (by decide) rfl)
        obtain ⟨xs41, hc40, hn42, he43⟩ := hO10.sho (hO10.fix 87 (by decide) rfl)
        obtain ⟨x44, hx45⟩ : ∃ z, xs37[x6.toInt.toNat]? = some z := ⟨_, List.getElem?_eq_getElem (by omega)⟩
        have t46 : 0 ≤ x44.toInt ∧ x44.toInt ≤ 130 := he39 _ _ hx45
        obtain ⟨x47, hx48⟩ : ∃ z, xs41[x6.toInt.toNat]? = some z := ⟨_, List.getElem?_eq_getElem (by omega)⟩
        have t49 : 0 ≤ x47.toInt ∧ x47.toInt ≤ 130 := he43 _ _ hx48
        obtain ⟨N50, N51, N52, N53, N54, N55⟩ := ln_at (p := a1) (l := x6) (fst := x5) hX0.2.2.2.2 hO0 hu10 (by decide) hc36 hc40 hc19 hx45 hx48 hx24 (by omega) (by omega) px11 (by omega)
        refine ur_ldA rfl rfl ?_
        refine ur_get rfl hc18 (mf_27 hO10 hc18) ?_
        refine ur_ldI rfl rfl ?_
        refine ur_aldV rfl hc36 hn38 (by omega) (fun x56 hx57 => ?_)
        obtain rfl : x44 = x56 := Option.some.inj (hx45.symm.trans hx57)
        refine ur_ldI rfl rfl ?_
        have z58 := any_r x44
        have z59 := any_r x5
        refine ur_if2 rfl (fun c60 => ?_) (fun c60 => ?_)
        · have t61 := eq_to c60
          refine ur_ldA rfl rfl ?_
          refine ur_ldI rfl rfl ?_
          refine ur_ldA rfl rfl ?_
          refine ur_get rfl hc18 (mf_27 hO10 hc18) ?_
          refine ur_ldI rfl rfl ?_
          refine ur_aldV rfl hc36 hn38 (by omega) (fun x62 hx63 => ?_)
          obtain rfl : x44 = x62 := Option.some.inj (hx45.symm.trans hx63)
          refine ur_ldA rfl rfl ?_
          refine ur_get rfl hc18 (mf_28 hO10 hc18) ?_
          refine ur_ldI rfl rfl ?_
          refine ur_aldV rfl hc40 hn42 (by omega) (fun x64 hx65 => ?_)
          obtain rfl : x47 = x64 := Option.some.inj (hx48.symm.trans hx65)
          refine ur_inl rfl (rcv_of hc18) (Nat.le_of_ble_eq_true rfl) (Nat.le_of_ble_eq_true rfl) (sf_X12_worked hO10 _ (by show 0 ≤ a1.toInt ∧ a1.toInt ≤ 10; omega) _ (by show 0 ≤ x44.toInt ∧ x44.toInt ≤ 130; omega) _ (by show 0 ≤ x47.toInt ∧ x47.toInt ≤ 130; omega) (by omega) (txs_keep hO0 hu10 (by decide) (by decide) N54) (fun w66 h68 hr67 hO68 hv68 => ?_))
          have hu68 := hv68
          obtain ⟨x69, rfl⟩ := hr67
          show uRun _ (uCall Mt _) _ 64 (_, [(.inl x69)], _, _, _)
          exact ur_ret rfl rfl (hQ _ _ ⟨_, rfl⟩ hO68 (hu10.tr hu68))
        · have t70 := eq_no c60
          refine ur_ldA rfl rfl ?_
          refine ur_ldI rfl rfl ?_
          refine ur_ldI rfl rfl ?_
          refine ur_ldA rfl rfl ?_
          refine ur_get rfl hc18 (mf_27 hO10 hc18) ?_
          refine ur_ldI rfl rfl ?_
          refine ur_aldV rfl hc36 hn38 (by omega) (fun x71 hx72 => ?_)
          obtain rfl : x44 = x71 := Option.some.inj (hx45.symm.trans hx72)
          refine ur_inl rfl (rcv_of hc18) (Nat.le_of_ble_eq_true rfl) (Nat.le_of_ble_eq_true rfl) (sf_X12_worked hO10 _ (by show 0 ≤ a1.toInt ∧ a1.toInt ≤ 10; omega) _ (by show 0 ≤ x5.toInt ∧ x5.toInt ≤ 130; omega) _ (by show 0 ≤ x44.toInt ∧ x44.toInt ≤ 130; omega) (by omega) (txs_keep hO0 hu10 (by decide) (by decide) (N53 (by omega))) (fun w73 h75 hr74 hO75 hv75 => ?_))
          have hu75 := hv75
          obtain ⟨x76, rfl⟩ := hr74
          show uRun _ (uCall Mt _) _ 44 (_, [(.inl x76)], _, _, _)
          refine ur_if1 rfl (fun c77 => ?_) (fun c77 => ?_)
          · have t78 := eq_to c77
            refine ur_ldA rfl rfl ?_
            obtain ⟨fs79, hc80⟩ := hO75.mod
            refine ur_get rfl hc80 (mf_28 hO75 hc80) ?_
            refine ur_ldI rfl rfl ?_
            refine ur_aldV rfl (hv75.ka (n := 732) hc40 hn42 rfl (by decide) (wid_f (by decide)) (by decide)) hn42 (by omega) (fun x81 hx82 => ?_)
            obtain rfl : x47 = x81 := Option.some.inj (hx48.symm.trans hx82)
            refine ur_svIk [some (.inr (.inr (some 69))), some (.inl a1), some (.inl x47), some (.inl x6)] rfl rfl ?_
            refine ur_incV (fun z => [some (.inr (.inr (some 69))), some (.inl a1), some (.inl x47), some (.inl z)]) rfl rfl (fun _ => rfl) (fun x83 e84 => ?_)
            have t85 := ti_add e84 (by omega) (by omega)
            refine ur_go rfl ?_
            have z86 := any_r x47
            have z87 := any_r x83
            exact ih9 x47 x83 _ hO75 (hu10.tr hu75) (by omega) (by rw [show iN x83 = iN x6 + 1 by unfold iN; omega]; exact N55) (by omega)
          · have t88 := eq_no c77
            refine ur_ldA rfl rfl ?_
            refine ur_ldI rfl rfl ?_
            refine ur_ldA rfl rfl ?_
            obtain ⟨fs89, hc90⟩ := hO75.mod
            refine ur_get rfl hc90 (mf_27 hO75 hc90) ?_
            refine ur_ldI rfl rfl ?_
            refine ur_aldV rfl (hv75.ka (n := 732) hc36 hn38 rfl (by decide) (wid_f (by decide)) (by decide)) hn38 (by omega) (fun x91 hx92 => ?_)
            obtain rfl : x44 = x91 := Option.some.inj (hx45.symm.trans hx92)
            refine ur_ldA rfl rfl ?_
            refine ur_get rfl hc90 (mf_28 hO75 hc90) ?_
            refine ur_ldI rfl rfl ?_
            refine ur_aldV rfl (hv75.ka (n := 732) hc40 hn42 rfl (by decide) (wid_f (by decide)) (by decide)) hn42 (by omega) (fun x93 hx94 => ?_)
            obtain rfl : x47 = x93 := Option.some.inj (hx48.symm.trans hx94)
            refine ur_inl rfl (rcv_of hc90) (Nat.le_of_ble_eq_true rfl) (Nat.le_of_ble_eq_true rfl) (sf_X12_worked hO75 _ (by show 0 ≤ a1.toInt ∧ a1.toInt ≤ 10; omega) _ (by show 0 ≤ x44.toInt ∧ x44.toInt ≤ 130; omega) _ (by show 0 ≤ x47.toInt ∧ x47.toInt ≤ 130; omega) (by omega) (txs_keep hO0 (hu10.tr hu75) (by decide) (by decide) N54) (fun w95 h97 hr96 hO97 hv97 => ?_))
            have hu97 := hv97
            obtain ⟨x98, rfl⟩ := hr96
            show uRun _ (uCall Mt _) _ 64 (_, [(.inl x98)], _, _, _)
            exact ur_ret rfl rfl (hQ _ _ ⟨_, rfl⟩ hO97 (hu10.tr (hu75.tr hu97)))
  have z99 := any_r x1
  exact L7 _ 0 x1 _ hO0 un.rf (by omega) (by rw [show iN x1 - 61 * iN a1 = 0 by unfold iN; omega]; exact (by decide : iN 0 = 0)) (Nat.lt_succ_self _)
end CT6
