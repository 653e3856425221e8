/-! THE TAPES; printed by program but for its head -/
section TFD
def bvt (v : Int32) (i : Int) : Int := if i = 0 then v.toInt % 256 else if i = 1 then v.toInt / 256 % 256 else if i = 2 then v.toInt / 65536 % 256 else v.toInt / 16777216 % 256
theorem bvt_r (v : Int32) (i : Int) : 0 ≤ bvt v i ∧ bvt v i ≤ 255 := by
  unfold bvt
  split
  · omega
  split
  · omega
  split <;> omega
theorem four {s : Int32} {i : Int} (hs : s.toInt = 8 * i) (hi : 0 ≤ i ∧ i ≤ 3) : (i = 0 ∧ s = 0) ∨ (i = 1 ∧ s = 8) ∨ (i = 2 ∧ s = 16) ∨ (i = 3 ∧ s = 24) := by
  have k : ∀ c : Int32, s.toInt = c.toInt → s = c := fun c q => Int32.toInt_inj.mp q
  rcases (show i = 0 ∨ i = 1 ∨ i = 2 ∨ i = 3 by omega) with q | q | q | q
  · exact Or.inl ⟨q, k 0 (by rw [hs, q]; decide)⟩
  · exact Or.inr (Or.inl ⟨q, k 8 (by rw [hs, q]; decide)⟩)
  · exact Or.inr (Or.inr (Or.inl ⟨q, k 16 (by rw [hs, q]; decide)⟩))
  · exact Or.inr (Or.inr (Or.inr ⟨q, k 24 (by rw [hs, q]; decide)⟩))
theorem and_255x {u z : Int32} (e : u &&& 255 = z) : z.toInt = ((u.toBitVec.toNat % 256 : Nat) : Int) := by
  have h : z.toBitVec.toNat = u.toBitVec.toNat % 256 := by
    rw [← e]
    show ((u &&& 255).toBitVec).toNat = _
    rw [Int32.toBitVec_and, BitVec.toNat_and]
    exact Nat.and_two_pow_sub_one_eq_mod _ 8
  show z.toBitVec.toInt = _
  rw [BitVec.toInt_eq_toNat_cond, if_pos (by omega), h]
theorem bvC {v s u z : Int32} {i : Int} (hs : s.toInt = 8 * i) (hi : 0 ≤ i ∧ i ≤ 3) (e2 : (v.toUInt32 >>> (s.toUInt32 &&& Int32.toUInt32 31)).toInt32 = u) (e3 : u &&& 255 = z) : z.toInt = bvt v i := by
  rw [and_255x e3, ← e2]
  have cv : v.toInt = if 2 * v.toBitVec.toNat < 2 ^ 32 then (v.toBitVec.toNat : Int) else (v.toBitVec.toNat : Int) - ((2 ^ 32 : Nat) : Int) := BitVec.toInt_eq_toNat_cond _
  have hv := v.toBitVec.isLt
  unfold bvt
  rcases four hs hi with ⟨q, r⟩ | ⟨q, r⟩ | ⟨q, r⟩ | ⟨q, r⟩
  · subst q r
    rw [pk_ushr v 0 0 (by decide), if_pos rfl]
    split at cv <;> omega
  · subst q r
    rw [pk_ushr v 8 8 (by decide), if_neg (by decide), if_pos rfl]
    split at cv <;> omega
  · subst q r
    rw [pk_ushr v 16 16 (by decide), if_neg (by decide), if_neg (by decide), if_pos rfl]
    split at cv <;> omega
  · subst q r
    rw [pk_ushr v 24 24 (by decide), if_neg (by decide), if_neg (by decide), if_neg (by decide)]
    split at cv <;> omega
def sgb (b : Int) : Int := if b < 128 then b else b - 256
theorem nar_x {u : Int32} : (u.toInt8.toInt32).toInt = sgb (u.toInt % 256) := by
  rw [Int8.toInt_toInt32, Int32.toInt_toInt8]
  unfold Int.bmod sgb
  simp only []
  split <;> split <;> omega
theorem bvM {v s u z : Int32} {i : Int} (hs : s.toInt = 8 * i) (hi : 0 ≤ i ∧ i ≤ 3) (e2 : v >>> (s &&& 31) = u) (e3 : u.toInt8.toInt32 = z) : (vp_nar .byte z).toInt = sgb (bvt v i) := by
  have hz : z.toInt = sgb (bvt v i) := by
    rw [← e3, nar_x, ← e2]
    unfold bvt
    rcases four hs hi with ⟨q, r⟩ | ⟨q, r⟩ | ⟨q, r⟩ | ⟨q, r⟩
    · subst q r
      rw [show ((0 : Int32) &&& 31) = 0 by decide, pk_shr v 0 0 (by decide), Int.shiftRight_eq_div_pow, if_pos rfl, show v.toInt / ((2 ^ 0 : Nat) : Int) = v.toInt by omega]
    · subst q r
      rw [show ((8 : Int32) &&& 31) = 8 by decide, pk_shr v 8 8 (by decide), Int.shiftRight_eq_div_pow, if_neg (by decide), if_pos rfl]
      rfl
    · subst q r
      rw [show ((16 : Int32) &&& 31) = 16 by decide, pk_shr v 16 16 (by decide), Int.shiftRight_eq_div_pow, if_neg (by decide), if_neg (by decide), if_pos rfl]
      rfl
    · subst q r
      rw [show ((24 : Int32) &&& 31) = 24 by decide, pk_shr v 24 24 (by decide), Int.shiftRight_eq_div_pow, if_neg (by decide), if_neg (by decide), if_neg (by decide)]
      rfl
  have r := bvt_r v i
  have g : -128 ≤ z.toInt ∧ z.toInt ≤ 127 := by
    rw [hz]
    unfold sgb
    split <;> omega
  rw [nar_vb g, hz]
def FDc (h h' : aH) (n : Int) (v : Int32) : Prop := ∀ p, 0 ≤ p → gI h' 6 p = if fO h 5 1 ≤ p ∧ p < fO h 5 1 + n then bvt v (p - fO h 5 1) else gI h 6 p
def FDm (h h' : aH) (n : Int) (v : Int32) : Prop := ∀ p, 0 ≤ p → gI h' 82 p = if fI h 19 ≤ p ∧ p < fI h 19 + n then sgb (bvt v (p - fI h 19)) else gI h 82 p
theorem FDc_0 {h : aH} {n : Int} {v : Int32} (e : n = 0) : FDc h h n v := fun p _ => by rw [if_neg (by omega)]
theorem FDm_0 {h : aH} {n : Int} {v : Int32} (e : n = 0) : FDm h h n v := fun p _ => by rw [if_neg (by omega)]
theorem gI_wI {h1 h2 : aH} {a : Nat} {j X : Int32} {p : Int} (w : wI h1 h2 a ((arI h1 a).set j.toInt.toNat X)) (hp : 0 ≤ p) (hj : 0 ≤ j.toInt ∧ j.toInt < ((arI h1 a).length : Int)) : gI h2 a p = if p = j.toInt then X.toInt else gI h1 a p := by
  unfold gI
  rw [w.1, List.getD_eq_getElem?_getD, List.getD_eq_getElem?_getD]
  by_cases q : p = j.toInt
  · rw [if_pos q, q, List.getElem?_set_self (by omega)]
    rfl
  · rw [if_neg q, List.getElem?_set_ne (by omega)]
theorem FDc_s {h h1 h2 h3 : aH} {i i' n : Int} {v j X : Int32} (H : FDc h h1 i v) (w : wI h1 h2 6 ((arI h1 6).set j.toInt.toNat X)) (e : ∀ b, b ≠ 5 → h3[b]? = h2[b]?) (hl : ((arI h1 6).length : Int) = n) (hj : j.toInt = fO h 5 1 + i) (h0 : 0 ≤ j.toInt ∧ j.toInt < n) (hi : 0 ≤ i) (hx : X.toInt = bvt v i) (ei : i' = i + 1) : FDc h h3 i' v := fun p hp => by
  have e1 : gI h3 6 p = gI h2 6 p := by unfold gI; rw [arI_c (e 6 (by decide))]
  rw [e1, gI_wI w hp (by omega)]
  by_cases q : p = j.toInt
  · rw [if_pos q, if_pos (by omega), hx, show p - fO h 5 1 = i by omega]
  · rw [if_neg q, H p hp]
    by_cases r : fO h 5 1 ≤ p ∧ p < fO h 5 1 + i
    · rw [if_pos r, if_pos (by omega)]
    · rw [if_neg r, if_neg (by omega)]
theorem FDm_s {h h1 h2 h3 : aH} {i i' n : Int} {v j X : Int32} (H : FDm h h1 i v) (w : wI h1 h2 82 ((arI h1 82).set j.toInt.toNat X)) (e : ∀ b, b ≠ 69 → h3[b]? = h2[b]?) (hl : ((arI h1 82).length : Int) = n) (hj : j.toInt = fI h 19 + i) (h0 : 0 ≤ j.toInt ∧ j.toInt < n) (hi : 0 ≤ i) (hx : X.toInt = sgb (bvt v i)) (ei : i' = i + 1) : FDm h h3 i' v := fun p hp => by
  have e1 : gI h3 82 p = gI h2 82 p := by unfold gI; rw [arI_c (e 82 (by decide))]
  rw [e1, gI_wI w hp (by omega)]
  by_cases q : p = j.toInt
  · rw [if_pos q, if_pos (by omega), hx, show p - fI h 19 = i by omega]
  · rw [if_neg q, H p hp]
    by_cases r : fI h 19 ≤ p ∧ p < fI h 19 + i
    · rw [if_pos r, if_pos (by omega)]
    · rw [if_neg r, if_neg (by omega)]
theorem FDc.c {h h' : aH} {n m : Int} {v : Int32} (H : FDc h h' n v) (e : m = n) : FDc h h' m v := by
  subst e
  exact H
theorem FDm.c {h h' : aH} {n m : Int} {v : Int32} (H : FDm h h' n v) (e : m = n) : FDm h h' m v := by
  subst e
  exact H
theorem lnZ {h : aH} {a kd n : Nat} {xs : List Int32} (hc : h[a]? = some (.inr (kd, .inl xs))) (hn : xs.length = n) : ((arI h a).length : Int) = n := by
  rw [arI_of hc, hn]
set_option maxRecDepth 20000 in
set_option maxHeartbeats 4000000 in
theorem st_X8_takeBytes {d kc ks : Nat} {h0 : aH} {Q : Option aV → aH → Prop} (hO0 : OK h0) (a1 : Int32) (b1 : 1 ≤ a1.toInt ∧ a1.toInt ≤ 4) (a2 : Int32) (pre0 : fO h0 5 1 + a1.toInt ≤ 120) (hQ : ∀ r h', (∃ x : Int32, r = some (.inl x) ∧ (x.toInt = fO h0 5 1 + a1.toInt ∧ fO h' 5 1 = fO h0 5 1 + a1.toInt)) → OK h' → un [6, 1501] h0 h' → (FDc h0 h' a1.toInt a2) → Q r h') : uCall Mt (d + 1) 93 [(.inr (.inr (some 5))), (.inl a1), (.inl a2)] h0 kc ks Q := by
  have l_0 : ((0) : Int32).toInt = 0 := by decide
  have l_1 : ((1) : Int32).toInt = 1 := by decide
  have l_8 : ((8) : Int32).toInt = 8 := by decide
  have l_120 : ((120) : Int32).toInt = 120 := by decide
  have l_255 : ((255) : Int32).toInt = 255 := by decide
  refine uc_ink [some (.inr (.inr (some 5))), some (.inl a1), some (.inl a2), none] mt_93 (Nat.le_of_ble_eq_true rfl) rfl ?_
  obtain ⟨f2, f3, f4, f5, hc1, k6⟩ := ok_5 hO0
  have t7 := fO_of (k := 1) hc1 rfl
  refine ur_push rfl ?_
  refine ur_svIk [some (.inr (.inr (some 5))), some (.inl a1), some (.inl a2), some (.inl 0)] rfl rfl ?_
  have L9 : ∀ (m10 : Nat) (x8 : Int32) (h12 : aH) , OK h12 → un [6, 1501] h0 h12 → ((0 ≤ x8.toInt ∧ x8.toInt ≤ 4) ∧ fO h12 5 1 = fO h0 5 1 + x8.toInt ∧ x8.toInt ≤ a1.toInt) → (FDc h0 h12 x8.toInt a2) → ((5 - x8.toInt).toNat) < m10 → uRun oX8_takeBytes (uCall Mt (d + 0)) Q 2 ([some (.inr (.inr (some 5))), some (.inl a1), some (.inl a2), some (.inl x8)], [], h12, kc, ks) := by
    intro m10
    induction m10 with
    | zero => intro x8 h12 hO12 hu12 iv14 px13 mm15; omega
    | succ m10 ih11 =>
      intro x8 h12 hO12 hu12 iv14 px13 mm15
      refine ur_ldI rfl rfl ?_
      refine ur_ldI rfl rfl ?_
      have z16 := any_r x8
      have z17 := any_r a1
      refine ur_if2 rfl (fun c18 => ?_) (fun c18 => ?_)
      · have t19 := le_to c18
        refine ur_ldA rfl rfl ?_
        obtain ⟨f21, f22, f23, f24, hc20, k25⟩ := ok_5 hO12
        refine ur_get rfl hc20 rfl ?_
        have t26 := fO_of (k := 1) hc20 rfl
        exact ur_ret rfl rfl (hQ _ _ ⟨_, rfl, by omega⟩ hO12 hu12 (px13.c (by omega)))
      · have t27 := le_no c18
        refine ur_ldA rfl rfl ?_
        obtain ⟨f29, f30, f31, f32, hc28, k33⟩ := ok_5 hO12
        refine ur_get rfl hc28 rfl ?_
        have t34 := fO_of (k := 1) hc28 rfl
        refine ur_push rfl ?_
        refine ur_if2 rfl (fun c35 => ?_) (fun c35 => ?_)
        · have t36 := le_to c35
          refine ur_ldA rfl rfl ?_
          refine ur_get rfl hc28 rfl ?_
          exact ur_ret rfl rfl (hQ _ _ ⟨_, rfl, by omega⟩ hO12 hu12 (px13.c (by omega)))
        · have t37 := le_no c35
          obtain ⟨xs39, hc38, hn40, he41⟩ := hO12.int (hO12.fix 6 (by decide) rfl)
          refine ur_ldA rfl rfl ?_
          refine ur_get rfl hc28 rfl ?_
          refine ur_ldA rfl rfl ?_
          refine ur_get rfl hc28 rfl ?_
          refine ur_ldI rfl rfl ?_
          refine ur_push rfl ?_
          refine ur_ldI rfl rfl ?_
          refine ur_binV rfl (fun x42 e43 => ?_)
          have t44 := ti_mulR e43 l_8 (by omega) (by omega)
          refine ur_binV rfl (fun x45 e46 => ?_)
          refine ur_push rfl ?_
          refine ur_binV rfl (fun x47 e48 => ?_)
          have t49 := and_255 e48
          refine ur_astV (W := [6, 1501]) (m := 120) rfl hO12 hc38 (by decide) hn40 (by omega) (any_r _) (Or.inr (Or.inr (wid_fix (by decide) (by decide)))) (fun h52 hO52 hu52 d50 hc51 => ?_)
          have w53 : wI h12 h52 6 ((arI h12 6).set (f29 : Int32).toInt.toNat x47) := ⟨by rw [arI_of hc51, arI_of hc38], d50⟩
          refine ur_ldA rfl rfl ?_
          refine ur_dup rfl rfl ?_
          refine ur_get rfl ((d50 _ (by decide)).trans hc28) rfl ?_
          have t54 := fO_of (k := 1) ((d50 _ (by decide)).trans hc28) rfl
          refine ur_push rfl ?_
          refine ur_binV rfl (fun x55 e56 => ?_)
          have z57 := any_r f29
          have t58 := ti_add e56 (by omega) (by omega)
          refine ur_putV (W := [6, 1501]) (fs' := [(.inr (.inr (some 6))), (.inl x55), (.inl f30), (.inl f31), (.inr (.inr (some 7))), (.inl f32)]) rfl hO52 ((d50 _ (by decide)).trans hc28) (Nat.le_of_ble_eq_true rfl) rfl rfl ⟨rfl, _, _, _, _, rfl, by omega⟩ rfl (Or.inr (by show 1000 + 100 * wid 5 (108, 6) + 1 ∈ _; rw [(wid_f (by decide))]; decide)) (fun h60 hO60 hu60 d59 hc61 => ?_)
          refine ur_incV (fun z => [some (.inr (.inr (some 5))), some (.inl a1), some (.inl a2), some (.inl z)]) rfl rfl (fun _ => rfl) (fun x62 e63 => ?_)
          have t64 := ti_add e63 (by omega) (by omega)
          refine ur_go rfl ?_
          have t65 := fO_of (k := 1) hc61 rfl
          have z66 := any_r x62
          exact ih11 x62 _ hO60 (hu12.tr (hu52.tr hu60)) (by omega) (FDc_s px13 w53 d59 (lnZ hc38 hn40) (by omega) (by omega) (by omega) (bvC (i := x8.toInt) (by omega) (by omega) e46 e48) (by omega)) (by omega)
  exact L9 _ 0 _ hO0 un.rf (by omega) (FDc_0 (by omega)) (Nat.lt_succ_self _)

set_option maxRecDepth 20000 in
set_option maxHeartbeats 4000000 in
theorem st_X11_feed {d kc ks : Nat} {h0 : aH} {Q : Option aV → aH → Prop} (hO0 : OK h0) (a1 : Int32) (a2 : Int32) (hQ : ∀ r h', (∃ x : Int32, r = some (.inl x) ∧ (¬ (1 ≤ a1.toInt ∧ a1.toInt ≤ 4) ∧ x.toInt = -1 ∧ fO h' 5 1 = fO h0 5 1 ∨ (1 ≤ a1.toInt ∧ a1.toInt ≤ 4) ∧ 120 < fO h0 5 1 + a1.toInt ∧ x.toInt = -3 ∧ fO h' 5 1 = fO h0 5 1 ∨ (1 ≤ a1.toInt ∧ a1.toInt ≤ 4) ∧ fO h0 5 1 + a1.toInt ≤ 120 ∧ x.toInt = fO h0 5 1 + a1.toInt ∧ fO h' 5 1 = fO h0 5 1 + a1.toInt)) → OK h' → un [6, 1501] h0 h' → (((1 ≤ a1.toInt ∧ a1.toInt ≤ 4 ∧ fO h0 5 1 + a1.toInt ≤ 120) → FDc h0 h' a1.toInt a2) ∧ (¬ (1 ≤ a1.toInt ∧ a1.toInt ≤ 4 ∧ fO h0 5 1 + a1.toInt ≤ 120) → h' = h0)) → Q r h') : uCall Mt (d + 2) 130 [(.inr (.inr (some 0))), (.inl a1), (.inl a2)] h0 kc ks Q := by
  have l_m3 : ((-3) : Int32).toInt = -3 := by decide
  have l_m1 : ((-1) : Int32).toInt = -1 := by decide
  have l_1 : ((1) : Int32).toInt = 1 := by decide
  have l_4 : ((4) : Int32).toInt = 4 := by decide
  refine uc_ink [some (.inr (.inr (some 0))), some (.inl a1), some (.inl a2)] mt_130 (Nat.le_of_ble_eq_true rfl) rfl ?_
  obtain ⟨f2, f3, f4, f5, hc1, k6⟩ := ok_5 hO0
  have t7 := fO_of (k := 1) hc1 rfl
  refine ur_ldI rfl rfl ?_
  refine ur_push rfl ?_
  refine ur_push rfl ?_
  refine ur_callv rfl rfl (Nat.le_of_ble_eq_true rfl) (Nat.le_of_ble_eq_true rfl) rfl (sp_within _ _ _ _ _) ?_
  refine ur_neB rfl (fun c10 => ?_) (fun c10 => ?_)
  · have t11 := wi_toL c10 l_1 l_4
    refine ur_ldA rfl rfl ?_
    obtain ⟨hc12, k13⟩ := ok_0 hO0
    refine ur_get rfl hc12 rfl ?_
    refine ur_ldI rfl rfl ?_
    refine ur_inl rfl (rcv_of hc1) (Nat.le_of_ble_eq_true rfl) (Nat.le_of_ble_eq_true rfl) (sd_X8_hasRoomFor hO0 _ (by show 1 ≤ a1.toInt ∧ a1.toInt ≤ 4; omega) (fun w14 hr15 => ?_))
    obtain ⟨b16, rfl, t17, t18⟩ := hr15
    show uRun _ (uCall Mt _) _ 19 (_, [(.inl (bi b16))], _, _, _)
    refine ur_neB rfl (fun c19 => ?_) (fun c19 => ?_)
    · have t20 := t17 c19
      clear t17 t18
      refine ur_ldA rfl rfl ?_
      refine ur_get rfl hc12 rfl ?_
      refine ur_ldI rfl rfl ?_
      refine ur_ldI rfl rfl ?_
      refine ur_inl rfl (rcv_of hc1) (Nat.le_of_ble_eq_true rfl) (Nat.le_of_ble_eq_true rfl) (st_X8_takeBytes hO0 _ (by show 1 ≤ a1.toInt ∧ a1.toInt ≤ 4; omega) _ (by omega) (fun w21 h24 hr22 hO24 hv24 hp23 => ?_))
      have hu24 := hv24
      obtain ⟨x25, rfl, t26⟩ := hr22
      show uRun _ (uCall Mt _) _ 34 (_, [(.inl x25)], _, _, _)
      obtain ⟨f28, f29, f30, f31, hc27, k32⟩ := ok_5 hO24
      have t33 := fO_of (k := 1) hc27 rfl
      exact ur_ret rfl rfl (hQ _ _ ⟨_, rfl, by omega⟩ hO24 hu24 ⟨fun _ => hp23, fun q => absurd (by omega) q⟩)
    · have t34 := t18 c19
      clear t17 t18
      refine ur_push rfl ?_
      exact ur_ret rfl rfl (hQ _ _ ⟨_, rfl, by omega⟩ hO0 un.rf ⟨fun q => by exfalso; omega, fun _ => rfl⟩)
  · have t35 := wi_noL c10 l_1 l_4
    refine ur_push rfl ?_
    exact ur_ret rfl rfl (hQ _ _ ⟨_, rfl, by omega⟩ hO0 un.rf ⟨fun q => by exfalso; omega, fun _ => rfl⟩)

set_option maxRecDepth 20000 in
set_option maxHeartbeats 4000000 in
theorem st_X12_feed {d kc ks : Nat} {h0 : aH} {Q : Option aV → aH → Prop} (hO0 : OK h0) (a1 : Int32) (a2 : Int32) (hQ : ∀ r h', (∃ x : Int32, r = some (.inl x) ∧ (¬ (1 ≤ a1.toInt ∧ a1.toInt ≤ 4) ∧ x.toInt = -1 ∧ fI h' 19 = fI h0 19 ∨ (1 ≤ a1.toInt ∧ a1.toInt ≤ 4) ∧ 120 < fI h0 19 + a1.toInt ∧ x.toInt = -3 ∧ fI h' 19 = fI h0 19 ∨ (1 ≤ a1.toInt ∧ a1.toInt ≤ 4) ∧ fI h0 19 + a1.toInt ≤ 120 ∧ x.toInt = fI h0 19 + a1.toInt ∧ fI h' 19 = fI h0 19 + a1.toInt)) → OK h' → un [82, 7919] h0 h' → (((1 ≤ a1.toInt ∧ a1.toInt ≤ 4 ∧ fI h0 19 + a1.toInt ≤ 120) → FDm h0 h' a1.toInt a2) ∧ (¬ (1 ≤ a1.toInt ∧ a1.toInt ≤ 4 ∧ fI h0 19 + a1.toInt ≤ 120) → h' = h0)) → Q r h') : uCall Mt (d + 2) 212 [(.inr (.inr (some 69))), (.inl a1), (.inl a2)] h0 kc ks Q := by
  have l_m3 : ((-3) : Int32).toInt = -3 := by decide
  have l_m1 : ((-1) : Int32).toInt = -1 := by decide
  have l_0 : ((0) : Int32).toInt = 0 := by decide
  have l_1 : ((1) : Int32).toInt = 1 := by decide
  have l_4 : ((4) : Int32).toInt = 4 := by decide
  have l_8 : ((8) : Int32).toInt = 8 := by decide
  have l_120 : ((120) : Int32).toInt = 120 := by decide
  refine uc_ink [some (.inr (.inr (some 69))), some (.inl a1), some (.inl a2), none] mt_212 (Nat.le_of_ble_eq_true rfl) rfl ?_
  obtain ⟨fs1, hc2⟩ := hO0.mod
  obtain ⟨f3, p4, t5⟩ := mf_19 hO0 hc2
  have t6 := fI_of hc2 p4
  refine ur_ldI rfl rfl ?_
  refine ur_push rfl ?_
  refine ur_push rfl ?_
  refine ur_callv rfl rfl (Nat.le_of_ble_eq_true rfl) (Nat.le_of_ble_eq_true rfl) rfl (sp_in _ _ _ _ _) ?_
  refine ur_neB rfl (fun c9 => ?_) (fun c9 => ?_)
  · have t10 := wi_toL c9 l_1 l_4
    refine ur_ldA rfl rfl ?_
    refine ur_get rfl hc2 p4 ?_
    refine ur_ldI rfl rfl ?_
    refine ur_binV rfl (fun x11 e12 => ?_)
    have z13 := any_r f3
    have z14 := any_r a1
    have t15 := ti_add e12 (by omega) (by omega)
    refine ur_push rfl ?_
    refine ur_if2 rfl (fun c16 => ?_) (fun c16 => ?_)
    · have t17 := le_to c16
      refine ur_push rfl ?_
      refine ur_svIk [some (.inr (.inr (some 69))), some (.inl a1), some (.inl a2), some (.inl 0)] rfl rfl ?_
      have L19 : ∀ (m20 : Nat) (x18 : Int32) (h22 : aH) , OK h22 → un [82, 7919] h0 h22 → ((0 ≤ x18.toInt ∧ x18.toInt ≤ 4) ∧ fI h22 19 = fI h0 19 + x18.toInt ∧ x18.toInt ≤ a1.toInt) → (FDm h0 h22 x18.toInt a2) → ((5 - x18.toInt).toNat) < m20 → uRun oX12_feed (uCall Mt (d + 1)) Q 27 ([some (.inr (.inr (some 69))), some (.inl a1), some (.inl a2), some (.inl x18)], [], h22, kc, ks) := by
        intro m20
        induction m20 with
        | zero => intro x18 h22 hO22 hu22 iv24 px23 mm25; omega
        | succ m20 ih21 =>
          intro x18 h22 hO22 hu22 iv24 px23 mm25
          refine ur_ldI rfl rfl ?_
          refine ur_ldI rfl rfl ?_
          have z26 := any_r x18
          refine ur_if2 rfl (fun c27 => ?_) (fun c27 => ?_)
          · have t28 := le_to c27
            refine ur_ldA rfl rfl ?_
            obtain ⟨fs29, hc30⟩ := hO22.mod
            obtain ⟨f31, p32, t33⟩ := mf_19 hO22 hc30
            have t34 := fI_of hc30 p32
            refine ur_get rfl hc30 p32 ?_
            exact ur_ret rfl rfl (hQ _ _ ⟨_, rfl, by omega⟩ hO22 hu22 ⟨fun _ => px23.c (by omega), fun q => absurd (by omega) q⟩)
          · have t35 := le_no c27
            obtain ⟨xs37, hc36, hn38, he39⟩ := hO22.byt (hO22.fix 82 (by decide) rfl)
            refine ur_ldA rfl rfl ?_
            obtain ⟨fs40, hc41⟩ := hO22.mod
            refine ur_get rfl hc41 (mf_18 hO22 hc41) ?_
            refine ur_ldA rfl rfl ?_
            obtain ⟨f42, p43, t44⟩ := mf_19 hO22 hc41
            have t45 := fI_of hc41 p43
            refine ur_get rfl hc41 p43 ?_
            refine ur_ldI rfl rfl ?_
            refine ur_push rfl ?_
            refine ur_ldI rfl rfl ?_
            refine ur_binV rfl (fun x46 e47 => ?_)
            have t48 := ti_mulR e47 l_8 (by omega) (by omega)
            refine ur_binV rfl (fun x49 e50 => ?_)
            have z51 := any_r a2
            have z52 := any_r x46
            refine ur_unV rfl (fun x53 e54 => ?_)
            refine ur_astV (W := [82, 7919]) (m := 120) rfl hO22 hc36 (by decide) hn38 (by omega) (any_r _) (Or.inr (Or.inr (wid_fix (by decide) (by decide)))) (fun h57 hO57 hu57 d55 hc56 => ?_)
            have w58 : wI h22 h57 82 ((arI h22 82).set (f42 : Int32).toInt.toNat (vp_nar .byte x53)) := ⟨by rw [arI_of hc56, arI_of hc36], d55⟩
            refine ur_ldA rfl rfl ?_
            refine ur_dup rfl rfl ?_
            have t59 := fI_of ((d55 _ (by decide)).trans hc41) p43
            refine ur_get rfl ((d55 _ (by decide)).trans hc41) p43 ?_
            refine ur_push rfl ?_
            refine ur_binV rfl (fun x60 e61 => ?_)
            have z62 := any_r f42
            have t63 := ti_add e61 (by omega) (by omega)
            refine ur_putM (W := [82, 7919]) rfl hO57 ((d55 _ (by decide)).trans hc41) (by decide) rfl (ms_19 (hO57.msh ((d55 _ (by decide)).trans hc41)) (show 0 ≤ x60.toInt ∧ x60.toInt ≤ 120 by omega)) (Or.inr (by decide)) (fun h65 hO65 hu65 d64 hc66 => ?_)
            have t67 := fI_of hc66 (gs_eq p43)
            refine ur_incV (fun z => [some (.inr (.inr (some 69))), some (.inl a1), some (.inl a2), some (.inl z)]) rfl rfl (fun _ => rfl) (fun x68 e69 => ?_)
            have t70 := ti_add e69 (by omega) (by omega)
            refine ur_go rfl ?_
            have z71 := any_r x68
            exact ih21 x68 _ hO65 (hu22.tr (hu57.tr hu65)) (by omega) (FDm_s px23 w58 d64 (lnZ hc36 hn38) (by omega) (by omega) (by omega) (bvM (i := x18.toInt) (by omega) (by omega) e50 e54) (by omega)) (by omega)
      exact L19 _ 0 _ hO0 un.rf (by omega) (FDm_0 (by omega)) (Nat.lt_succ_self _)
    · have t72 := le_no c16
      refine ur_push rfl ?_
      exact ur_ret rfl rfl (hQ _ _ ⟨_, rfl, by omega⟩ hO0 un.rf ⟨fun q => by exfalso; omega, fun _ => rfl⟩)
  · have t73 := wi_noL c9 l_1 l_4
    refine ur_push rfl ?_
    exact ur_ret rfl rfl (hQ _ _ ⟨_, rfl, by omega⟩ hO0 un.rf ⟨fun q => by exfalso; omega, fun _ => rfl⟩)
end TFD
