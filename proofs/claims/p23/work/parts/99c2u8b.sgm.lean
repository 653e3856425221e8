/-! SIGHT: what to look for, the reference; printed by program but for its head -/
section SGM
/-! SIGHT: what to look for, the reference -/
theorem retV_f {nx : Int → Int} {sp p k x y : Int} (r : retV nx sp p k x) (q : retV nx sp p k y) (hk : -60 ≤ k ∧ k ≤ 60) : y = x := by
  obtain ⟨f, h1, h2⟩ := r
  obtain ⟨g, k1, k2⟩ := q
  rw [← h2, ← k2]
  exact isRet_u k1 h1 k hk.1 hk.2
/-- the least so far as a number -/
def NCd (h : aH) : Int := if fI h 61 < 0 then -1 else 9 * fI h 61 + fI h 62
theorem NCd_s {h : aH} : (fI h 61 < 0 ∧ NCd h = -1) ∨ (0 ≤ fI h 61 ∧ NCd h = 9 * fI h 61 + fI h 62) := by
  unfold NCd
  by_cases q : fI h 61 < 0
  · rw [if_pos q]
    exact Or.inl ⟨q, rfl⟩
  · rw [if_neg q]
    exact Or.inr ⟨by omega, rfl⟩
theorem NCd_e {h h' : aH} (a : fI h' 61 = fI h 61) (b : fI h' 62 = fI h 62) : NCd h' = NCd h := by
  unfold NCd
  rw [a, b]
theorem MNq.sr {D D' : Int → Prop} {E : Int → Prop} {x x' s p lo hi : Int} (a : MNq D x) (hp : 0 ≤ p ∧ p ≤ 8) (h0 : 0 ≤ lo) (q : LKq lo s E) (l : lo ≤ s) (e : ∀ c, D' c ↔ (D c ∨ (c % 9 = p ∧ (lo ≤ c / 9 ∧ c / 9 ≤ hi) ∧ E (c / 9)))) (ex : (x' = x ∧ (hi < s ∨ (x ≠ -1 ∧ x ≤ 9 * s + p))) ∨ (x' = 9 * s + p ∧ s ≤ hi ∧ E s ∧ (x = -1 ∨ 9 * s + p < x))) : MNq D' x' := by
  have far : ∀ c, c % 9 = p → (lo ≤ c / 9 ∧ c / 9 ≤ hi) → E (c / 9) → 9 * s + p ≤ c := fun c m r u => by
    by_cases t : c / 9 < s
    · exact absurd u (q _ r.1 t)
    · omega
  rcases ex with ⟨rfl, ex⟩ | ⟨rfl, s1, s2, ex⟩
  · rcases a with ⟨a1, a2⟩ | ⟨a1, a2, a3⟩
    · refine Or.inl ⟨a1, fun c k => ?_⟩
      rcases (e c).mp k with k | ⟨m, r, k⟩
      · exact a2 c k
      · have := far c m r k
        omega
    · refine Or.inr ⟨a1, (e _).mpr (Or.inl a2), fun c k => ?_⟩
      rcases (e c).mp k with k | ⟨m, r, k⟩
      · exact a3 c k
      · have := far c m r k
        omega
  · refine Or.inr ⟨by omega, (e _).mpr (Or.inr ⟨by omega, by omega, by rw [show (9 * s + p) / 9 = s by omega]; exact s2⟩), fun c k => ?_⟩
    rcases (e c).mp k with k | ⟨m, r, k⟩
    · rcases a with ⟨a1, a2⟩ | ⟨a1, a2, a3⟩
      · exact absurd k (a2 c)
      · have := a3 c k
        omega
    · exact far c m r k
def LOD (D : Int → Prop) (R : Int → Int → Prop) (B : Int → Int → Prop) (k c : Int) : Prop := D c ∨ ∃ j t, (-60 ≤ j ∧ j < k) ∧ R j t ∧ 0 ≤ t ∧ B t c
theorem LOD.z {D : Int → Prop} {R B : Int → Int → Prop} {k c : Int} (e : k = -60) : LOD D R B k c ↔ D c := by
  subst e
  exact ⟨fun h => h.elim id (fun ⟨j, t, hj, _⟩ => by omega), Or.inl⟩
theorem LOD.n {D : Int → Prop} {R B : Int → Int → Prop} {k k' c t : Int} (f : ∀ t', R k t' → t' = t) (n : t < 0) (e : k' = k + 1) : LOD D R B k' c ↔ LOD D R B k c := by
  subst e
  constructor
  · rintro (h | ⟨j, u, hj, r, u0, q⟩)
    · exact Or.inl h
    · by_cases l : j < k
      · exact Or.inr ⟨j, u, ⟨hj.1, l⟩, r, u0, q⟩
      · obtain rfl : j = k := by omega
        have := f u r
        omega
  · rintro (h | ⟨j, u, hj, r, u0, q⟩)
    · exact Or.inl h
    · exact Or.inr ⟨j, u, ⟨hj.1, by omega⟩, r, u0, q⟩
theorem LOD.s {D : Int → Prop} {R B : Int → Int → Prop} {k k' c t : Int} (r : R k t) (f : ∀ t', R k t' → t' = t) (t0 : 0 ≤ t) (k0 : -60 ≤ k) (e : k' = k + 1) : LOD D R B k' c ↔ (LOD D R B k c ∨ B t c) := by
  subst e
  constructor
  · rintro (h | ⟨j, u, hj, r', u0, q⟩)
    · exact Or.inl (Or.inl h)
    · by_cases l : j < k
      · exact Or.inl (Or.inr ⟨j, u, ⟨hj.1, l⟩, r', u0, q⟩)
      · obtain rfl : j = k := by omega
        obtain rfl := f u r'
        exact Or.inr q
  · rintro ((h | ⟨j, u, hj, r', u0, q⟩) | q)
    · exact Or.inl h
    · exact Or.inr ⟨j, u, ⟨hj.1, by omega⟩, r', u0, q⟩
    · exact Or.inr ⟨k, t, ⟨k0, by omega⟩, r, t0, q⟩
/-- seen at some return: not none -/
theorem LRf.y {R : Int → Int → Prop} {P : Int → Prop} {x : Int} (H : LRf 61 R P x) (hx : x ≤ 60) (f : ∀ j t t', -60 ≤ j → j ≤ 60 → R j t → R j t' → t' = t) : ¬ LRq (-60) 61 R P := fun n => by
  rcases H with ⟨a, -⟩ | ⟨a, ⟨t, r, t0, p⟩, -⟩
  · omega
  · obtain ⟨t', r', m⟩ := n x a.1 (by omega)
    obtain rfl := f x t t' a.1 a.2 r r'
    exact m ⟨t0, p⟩
theorem LRf.n {R : Int → Int → Prop} {P : Int → Prop} {x : Int} (H : LRf 61 R P x) (hx : 60 < x) : LRq (-60) 61 R P := by
  rcases H with ⟨-, b⟩ | ⟨a, -⟩
  · exact b
  · omega
theorem LOD.c2 {R : Int → Int → Prop} {B : Int → Int → Int → Prop} {i i' c : Int} (e : i' = i + 1) (i0 : 0 ≤ i) : CD2 0 (-60) 61 (fun i k c => ∃ t, R k t ∧ 0 ≤ t ∧ B i t c) i' (-60) c ↔ LOD (CD2 0 (-60) 61 (fun i k c => ∃ t, R k t ∧ 0 ≤ t ∧ B i t c) i (-60)) R (B i) 61 c := by
  subst e
  constructor
  · rintro (⟨j, k, hj, hk, t, r, t0, q⟩ | ⟨k, hk, -⟩)
    · by_cases l : j < i
      · exact Or.inl (Or.inl ⟨j, k, ⟨hj.1, l⟩, hk, t, r, t0, q⟩)
      · obtain rfl : j = i := by omega
        exact Or.inr ⟨k, t, hk, r, t0, q⟩
    · omega
  · rintro ((⟨j, k, hj, hk, q⟩ | ⟨k, hk, -⟩) | ⟨k, t, hk, r, t0, q⟩)
    · exact Or.inl ⟨j, k, ⟨hj.1, by omega⟩, hk, q⟩
    · omega
    · exact Or.inl ⟨i, k, ⟨i0, by omega⟩, hk, t, r, t0, q⟩
/-- watches of the reference: peoples and days -/
def WRm (h : aH) : Prop := ∀ i : Int, 0 ≤ i → i < fI h 34 → (0 ≤ gI h 93 i ∧ gI h 93 i ≤ 8) ∧ (0 ≤ gI h 94 i ∧ gI h 94 i ≤ 999999) ∧ (0 ≤ gI h 95 i ∧ gI h 95 i ≤ 999999)
theorem WRm.un {W : List Nat} {h h' : aH} (H : WRm h) (hO : OK h) (hO' : OK h') (g : un W h h') (w : ∀ k ∈ [93, 94, 95, 7934], k ∉ W) : WRm h' := fun i i0 i1 => by
  rw [fI_keep (k := 34) hO hO' g rfl (w _ (by decide))] at i1
  rw [gI_keep (a := 93) (kd := 0) (n := 10) hO g i (by decide) rfl (by decide) rfl (by decide) (w _ (by decide)), gI_keep (a := 94) (kd := 0) (n := 10) hO g i (by decide) rfl (by decide) rfl (by decide) (w _ (by decide)), gI_keep (a := 95) (kd := 0) (n := 10) hO g i (by decide) rfl (by decide) rfl (by decide) (w _ (by decide))]
  exact H i i0 i1
set_option maxRecDepth 20000 in
set_option maxHeartbeats 4000000 in
theorem se_X12_lookOut {d kc ks : Nat} {h0 : aH} {Q : Option aV → aH → Prop} {ls : List (List (Int × Int) × List (Int × Int))} {D : Int → Prop} (hO0 : OK h0) (hX0 : SX h0) (a1 : Int32) (b1 : 0 ≤ a1.toInt ∧ a1.toInt ≤ 9) (a2 : Int32) (b2 : 0 ≤ a2.toInt ∧ a2.toInt ≤ 11) (a3 : Int32) (b3 : 0 ≤ a3.toInt ∧ a3.toInt ≤ 11) (pre0 : SKm h0) (pre1 : a2.toInt < fI h0 4) (pre2 : a3.toInt < fI h0 4) (pre3 : a1.toInt < fI h0 34) (pre4 : RLn h0 0 ls) (pre5 : ∀ l ∈ ls, lnG l) (pre6 : MNq D (NCd h0)) (pre7 : (0 ≤ fI h0 61 → (0 ≤ fI h0 62 ∧ fI h0 62 ≤ 8) ∧ fI h0 61 ≤ 999999) ∧ (fI h0 61 < 0 → fI h0 61 = -2 ∧ fI h0 62 = -2)) (pre8 : WRm h0) (hQ : ∀ r h', (r = none) → OK h' → un [80, 81, 7961, 7962] h0 h' → (SKm h') → (MNq (LOD D (fun j t => retV (NMh h0 (gI h0 73 a2.toInt)) (gI h0 73 a2.toInt) (gI h0 72 a2.toInt) j t) (fun t c => CWd (gI h0 93) (gI h0 94) (gI h0 95) (fun p d => canP ls (gI h0 74 a2.toInt) (gI h0 76 a2.toInt) (gI h0 75 a2.toInt) (gI h0 77 a2.toInt) p t d ∧ (LRq (-60) 61 (fun j t => retV (NMh h0 (gI h0 73 a3.toInt)) (gI h0 73 a3.toInt) (gI h0 72 a3.toInt) j t) (fun t => canP ls (gI h0 74 a3.toInt) (gI h0 76 a3.toInt) (gI h0 75 a3.toInt) (gI h0 77 a3.toInt) p t d))) a1.toInt c) (61)) (NCd h')) → ((0 ≤ fI h' 61 → (0 ≤ fI h' 62 ∧ fI h' 62 ≤ 8) ∧ fI h' 61 ≤ 999999) ∧ (fI h' 61 < 0 → fI h' 61 = -2 ∧ fI h' 62 = -2)) → Q r h') : uCall Mt (d + 7) 281 [(.inr (.inr (some 69))), (.inl a1), (.inl a2), (.inl a3)] h0 kc ks Q := by
  have l_m60 : ((-60) : Int32).toInt = -60 := by decide
  have l_0 : ((0) : Int32).toInt = 0 := by decide
  have l_1 : ((1) : Int32).toInt = 1 := by decide
  have l_60 : ((60) : Int32).toInt = 60 := by decide
  have l_120 : ((120) : Int32).toInt = 120 := by decide
  refine uc_ink [some (.inr (.inr (some 69))), some (.inl a1), some (.inl a2), some (.inl a3), none, none, none, none, none] mt_281 (Nat.le_of_ble_eq_true rfl) rfl ?_
  obtain ⟨fs1, hc2⟩ := hO0.mod
  obtain ⟨f3, p4, t5⟩ := mf_4 hO0 hc2
  have t6 := fI_of hc2 p4
  obtain ⟨f7, p8, t9⟩ := mf_34 hO0 hc2
  have t10 := fI_of hc2 p8
  obtain ⟨f11, p12⟩ := mf_61 hO0 hc2
  have t13 := fI_of hc2 p12
  obtain ⟨f14, p15⟩ := mf_62 hO0 hc2
  have t16 := fI_of hc2 p15
  have wr17 := pre8 a1.toInt (by omega) (by omega)
  refine ur_push rfl ?_
  refine ur_svIk [some (.inr (.inr (some 69))), some (.inl a1), some (.inl a2), some (.inl a3), some (.inl (-60)), none, none, none, none] rfl rfl ?_
  have L23 : ∀ (m24 : Nat) (x18 : Int32) (u19 : Option aV) (u20 : Option aV) (u21 : Option aV) (u22 : Option aV) (h26 : aH) , OK h26 → un [80, 81, 7961, 7962] h0 h26 → ((-60 ≤ x18.toInt ∧ x18.toInt ≤ 61)) → (MNq (LOD D (fun j t => retV (NMh h0 (gI h0 73 a2.toInt)) (gI h0 73 a2.toInt) (gI h0 72 a2.toInt) j t) (fun t c => CWd (gI h0 93) (gI h0 94) (gI h0 95) (fun p d => canP ls (gI h0 74 a2.toInt) (gI h0 76 a2.toInt) (gI h0 75 a2.toInt) (gI h0 77 a2.toInt) p t d ∧ (LRq (-60) 61 (fun j t => retV (NMh h0 (gI h0 73 a3.toInt)) (gI h0 73 a3.toInt) (gI h0 72 a3.toInt) j t) (fun t => canP ls (gI h0 74 a3.toInt) (gI h0 76 a3.toInt) (gI h0 75 a3.toInt) (gI h0 77 a3.toInt) p t d))) a1.toInt c) (x18.toInt)) (NCd h26)) → ((0 ≤ fI h26 61 → (0 ≤ fI h26 62 ∧ fI h26 62 ≤ 8) ∧ fI h26 61 ≤ 999999) ∧ (fI h26 61 < 0 → fI h26 61 = -2 ∧ fI h26 62 = -2)) → (SKm h26) → ((62 - x18.toInt).toNat) < m24 → uRun oX12_lookOut (uCall Mt (d + 6)) Q 4 ([some (.inr (.inr (some 69))), some (.inl a1), some (.inl a2), some (.inl a3), some (.inl x18), u19, u20, u21, u22], [], h26, kc, ks) := by
    intro m24
    induction m24 with
    | zero => intro x18 u19 u20 u21 u22 h26 hO26 hu26 iv30 px27 px28 px29 mm31; omega
    | succ m24 ih25 =>
      intro x18 u19 u20 u21 u22 h26 hO26 hu26 iv30 px27 px28 px29 mm31
      obtain ⟨fs32, hc33⟩ := hO26.mod
      obtain ⟨f34, p35⟩ := mf_61 hO26 hc33
      have t36 := fI_of hc33 p35
      obtain ⟨f37, p38⟩ := mf_62 hO26 hc33
      have t39 := fI_of hc33 p38
      have nc40 := NCd_s (h := h26)
      refine ur_ldI rfl rfl ?_
      refine ur_push rfl ?_
      refine ur_if2 rfl (fun c41 => ?_) (fun c41 => ?_)
      · have t42 := lt_to c41
        obtain ⟨f43, p44, t45⟩ := mf_4 hO26 hc33
        have t46 := fI_of hc33 p44
        obtain ⟨f47, p48, t49⟩ := mf_34 hO26 hc33
        have t50 := fI_of hc33 p48
        have t51 := fI_keep (k := 4) hO0 hO26 hu26 rfl (by decide)
        have t52 := fI_keep (k := 34) hO0 hO26 hu26 rfl (by decide)
        exact ur_ret0 rfl (hQ _ _ rfl hO26 hu26 px29 (by have q := px27; rw [show x18.toInt = 61 by omega] at q; exact q) px28)
      · have t53 := lt_no c41
        refine ur_ldA rfl rfl ?_
        refine ur_ldI rfl rfl ?_
        refine ur_ldI rfl rfl ?_
        obtain ⟨f54, p55, t56⟩ := mf_4 hO26 hc33
        have t57 := fI_of hc33 p55
        have t58 := fI_keep (k := 4) hO0 hO26 hu26 rfl (by decide)
        have t59 := fI_keep (k := 34) hO0 hO26 hu26 rfl (by decide)
        refine ur_inl rfl (rcv_of hc33) (Nat.le_of_ble_eq_true rfl) (Nat.le_of_ble_eq_true rfl) (sd_X12_passOf hO26 (hX0.un hO0 hO26 hu26 (by decide)) _ (by show 0 ≤ a2.toInt ∧ a2.toInt ≤ 11; omega) _ (by show -60 ≤ x18.toInt ∧ x18.toInt ≤ 60; omega) px29 (by omega) (fun w60 h63 hr61 hO63 hv63 hp62 => ?_))
        have hu63 : un [80, 81, 7961, 7962] h26 h63 := hv63.mono (by decide)
        obtain ⟨x64, rfl, f65⟩ := hr61
        show uRun _ (uCall Mt _) _ 18 (_, [(.inl x64)], _, _, _)
        have r66 := (by have q := f65.1; rw [gI_keep (a := 73) (kd := 0) (n := 12) hO0 hu26 a2.toInt (by decide) rfl (by decide) rfl (by decide) (by decide), gI_keep (a := 72) (kd := 0) (n := 12) hO0 hu26 a2.toInt (by decide) rfl (by decide) rfl (by decide) (by decide), show NMh h26 (gI h0 73 a2.toInt) = NMh h0 (gI h0 73 a2.toInt) from nxM_un hO0 hO26 hu26 (by decide) (by decide) (by decide) _] at q; exact q)
        refine ur_svIk [some (.inr (.inr (some 69))), some (.inl a1), some (.inl a2), some (.inl a3), some (.inl x18), some (.inl x64), u20, u21, u22] rfl rfl ?_
        refine ur_ldI rfl rfl ?_
        refine ur_if1 rfl (fun c67 => ?_) (fun c67 => ?_)
        · have t68 := le_to c67
          obtain ⟨fs71, hc72⟩ := hO63.mod
          obtain ⟨f73, p74, t75⟩ := mf_4 hO63 hc72
          have t76 := fI_of hc72 p74
          obtain ⟨f77, p78, t79⟩ := mf_34 hO63 hc72
          have t80 := fI_of hc72 p78
          obtain ⟨f81, p82⟩ := mf_61 hO63 hc72
          have t83 := fI_of hc72 p82
          obtain ⟨f84, p85⟩ := mf_62 hO63 hc72
          have t86 := fI_of hc72 p85
          have t87 := fI_keep (k := 4) hO0 hO63 (hu26.tr hu63) rfl (by decide)
          have t88 := fI_keep (k := 34) hO0 hO63 (hu26.tr hu63) rfl (by decide)
          have J69 : ∀ (x70 : Int32), (0 ≤ x70.toInt ∧ x70.toInt ≤ 1000000) → (gI h0 94 a1.toInt ≤ x70.toInt ∧ x64.toInt - 120 ≤ x70.toInt ∧ (x70.toInt = gI h0 94 a1.toInt ∨ x70.toInt = x64.toInt - 120)) → uRun oX12_lookOut (uCall Mt (d + 6)) Q 56 ([some (.inr (.inr (some 69))), some (.inl a1), some (.inl a2), some (.inl a3), some (.inl x18), some (.inl x64), u20, u21, u22], [(.inl x70)], h63, kc, ks) := by
            intro x70 t89 cp90
            refine ur_svIk [some (.inr (.inr (some 69))), some (.inl a1), some (.inl a2), some (.inl a3), some (.inl x18), some (.inl x64), some (.inl x70), u21, u22] rfl rfl ?_
            have J91 : ∀ (x92 : Int32), (-2147483648 ≤ x92.toInt ∧ x92.toInt ≤ 1000119) → (x92.toInt ≤ gI h0 95 a1.toInt ∧ x92.toInt ≤ x64.toInt + 120 ∧ (x92.toInt = gI h0 95 a1.toInt ∨ x92.toInt = x64.toInt + 120)) → uRun oX12_lookOut (uCall Mt (d + 6)) Q 86 ([some (.inr (.inr (some 69))), some (.inl a1), some (.inl a2), some (.inl a3), some (.inl x18), some (.inl x64), some (.inl x70), u21, u22], [(.inl x92)], h63, kc, ks) := by
              intro x92 t93 cp94
              have z95 := any_r x92
              refine ur_svIk [some (.inr (.inr (some 69))), some (.inl a1), some (.inl a2), some (.inl a3), some (.inl x18), some (.inl x64), some (.inl x70), some (.inl x92), u22] rfl rfl ?_
              refine ur_ldI rfl rfl ?_
              refine ur_svIk [some (.inr (.inr (some 69))), some (.inl a1), some (.inl a2), some (.inl a3), some (.inl x18), some (.inl x64), some (.inl x70), some (.inl x92), some (.inl x70)] rfl rfl ?_
              have L97 : ∀ (m98 : Nat) (x96 : Int32) (h100 : aH) , OK h100 → un [80, 81, 7961, 7962] h63 h100 → ((-120 ≤ x96.toInt ∧ x96.toInt ≤ 1000000) ∧ x70.toInt ≤ x96.toInt) → (LKq x70.toInt x96.toInt (fun d => canP ls (gI h0 74 a2.toInt) (gI h0 76 a2.toInt) (gI h0 75 a2.toInt) (gI h0 77 a2.toInt) (gI h0 93 a1.toInt) x64.toInt d ∧ (LRq (-60) 61 (fun j t => retV (NMh h0 (gI h0 73 a3.toInt)) (gI h0 73 a3.toInt) (gI h0 72 a3.toInt) j t) (fun t => canP ls (gI h0 74 a3.toInt) (gI h0 76 a3.toInt) (gI h0 75 a3.toInt) (gI h0 77 a3.toInt) (gI h0 93 a1.toInt) t d)))) → (fI h100 61 = fI h63 61 ∧ fI h100 62 = fI h63 62) → (SKm h100) → ((1000001 - x96.toInt).toNat) < m98 → uRun oX12_lookOut (uCall Mt (d + 6)) Q 92 ([some (.inr (.inr (some 69))), some (.inl a1), some (.inl a2), some (.inl a3), some (.inl x18), some (.inl x64), some (.inl x70), some (.inl x92), some (.inl x96)], [], h100, kc, ks) := by
                intro m98
                induction m98 with
                | zero => intro x96 h100 hO100 hu100 iv104 px101 px102 px103 mm105; omega
                | succ m98 ih99 =>
                  intro x96 h100 hO100 hu100 iv104 px101 px102 px103 mm105
                  obtain ⟨fs106, hc107⟩ := hO100.mod
                  obtain ⟨f108, p109⟩ := mf_61 hO100 hc107
                  have t110 := fI_of hc107 p109
                  obtain ⟨f111, p112⟩ := mf_62 hO100 hc107
                  have t113 := fI_of hc107 p112
                  have tt114 := px102
                  have tt115 : fI h63 61 = fI h26 61 ∧ fI h63 62 = fI h26 62 := ⟨(fI_keep (k := 61) hO26 hO63 hv63 rfl (by decide)), (fI_keep (k := 62) hO26 hO63 hv63 rfl (by decide))⟩
                  refine ur_ldI rfl rfl ?_
                  refine ur_ldI rfl rfl ?_
                  have z116 := any_r x96
                  refine ur_if2 rfl (fun c117 => ?_) (fun c117 => ?_)
                  · have t118 := lt_to c117
                    refine ur_incV (fun z => [some (.inr (.inr (some 69))), some (.inl a1), some (.inl a2), some (.inl a3), some (.inl z), some (.inl x64), some (.inl x70), some (.inl x92), some (.inl x96)]) rfl rfl (fun _ => rfl) (fun x119 e120 => ?_)
                    have z121 := any_r x18
                    have t122 := ti_add e120 (by omega) (by omega)
                    refine ur_go rfl ?_
                    obtain ⟨f123, p124, t125⟩ := mf_4 hO100 hc107
                    have t126 := fI_of hc107 p124
                    obtain ⟨f127, p128, t129⟩ := mf_34 hO100 hc107
                    have t130 := fI_of hc107 p128
                    have z131 := any_r x119
                    have nc132 := NCd_s (h := h100)
                    have tt133 : fI h100 61 = fI h100 61 := rfl
                    have tt134 : fI h100 62 = fI h100 62 := rfl
                    exact ih25 x119 _ _ _ _ _ hO100 (hu26.tr (hu63.tr hu100)) (by omega) (px27.sr (p := (gI h0 93 a1.toInt)) (lo := x70.toInt) (hi := x92.toInt) (s := x96.toInt) (E := fun d => canP ls (gI h0 74 a2.toInt) (gI h0 76 a2.toInt) (gI h0 75 a2.toInt) (gI h0 77 a2.toInt) (gI h0 93 a1.toInt) x64.toInt d ∧ (LRq (-60) 61 (fun j t => retV (NMh h0 (gI h0 73 a3.toInt)) (gI h0 73 a3.toInt) (gI h0 72 a3.toInt) j t) (fun t => canP ls (gI h0 74 a3.toInt) (gI h0 76 a3.toInt) (gI h0 75 a3.toInt) (gI h0 77 a3.toInt) (gI h0 93 a1.toInt) t d))) (by omega) (by omega) px101 (by omega) (fun c => (LOD.s r66 (fun t' r => retV_f r66 r (by omega)) (by omega) (by omega) (by omega)).trans (or_congr Iff.rfl (CWd.e (p := (gI h0 93 a1.toInt)) (t := x64.toInt) rfl (by omega) (by omega) (fun q d h => h.1.1)))) (Or.inl ⟨by omega, by omega⟩)) ⟨fun q => by omega, fun q => by omega⟩ px103 (by omega)
                  · have t135 := lt_no c117
                    refine ur_ldA rfl rfl ?_
                    refine ur_get rfl hc107 p109 ?_
                    refine ur_if1 rfl (fun c136 => ?_) (fun c136 => ?_)
                    · have t137 := lt_to c136
                      refine ur_ldA rfl rfl ?_
                      refine ur_ldI rfl rfl ?_
                      refine ur_ldI rfl rfl ?_
                      refine ur_ldA rfl rfl ?_
                      refine ur_get rfl hc107 (mf_35 hO100 hc107) ?_
                      refine ur_ldI rfl rfl ?_
                      obtain ⟨xs139, hc138, hn140, he141⟩ := hO100.int (hO100.fix 93 (by decide) rfl)
                      refine ur_aldV rfl hc138 hn140 (by omega) (fun x142 hx143 => ?_)
                      have t144 := gI_of (j := a1) hc138 hx143
                      have t145 := gI_keep (a := 93) (kd := 0) (n := 10) hO0 (hu26.tr (hu63.tr hu100)) (a1 : Int32).toInt (by decide) rfl (by decide) rfl (by decide) (by decide)
                      refine ur_ldI rfl rfl ?_
                      obtain ⟨f146, p147, t148⟩ := mf_4 hO100 hc107
                      have t149 := fI_of hc107 p147
                      obtain ⟨f150, p151⟩ := mf_15 hO100 hc107
                      have t152 := fI_of hc107 p151
                      obtain ⟨f153, p154⟩ := mf_16 hO100 hc107
                      have t155 := fI_of hc107 p154
                      obtain ⟨f156, p157⟩ := mf_17 hO100 hc107
                      have t158 := fI_of hc107 p157
                      have t159 := fI_keep (k := 4) hO0 hO100 (hu26.tr (hu63.tr hu100)) rfl (by decide)
                      have t160 := fI_keep (k := 34) hO0 hO100 (hu26.tr (hu63.tr hu100)) rfl (by decide)
                      refine ur_inl rfl (rcv_of hc107) (Nat.le_of_ble_eq_true rfl) (Nat.le_of_ble_eq_true rfl) (sd_X12_canSee hO100 (hX0.un hO0 hO100 (hu26.tr (hu63.tr hu100)) (by decide)) _ (by show 0 ≤ a2.toInt ∧ a2.toInt ≤ 11; omega) _ (by show -20000 ≤ x64.toInt ∧ x64.toInt ≤ 1020000; omega) _ (by show 0 ≤ x142.toInt ∧ x142.toInt ≤ 8; omega) _ (by show 0 ≤ x96.toInt ∧ x96.toInt ≤ 999999; omega) px103 (by omega) (pre4.keep (KN.un hO0 (hu26.tr (hu63.tr hu100)) (by decide) (by decide) (by decide) (by decide) (by decide)) (by decide)) pre5 (fun w161 h164 hr162 hO164 hv164 hp163 => ?_))
                      have hu164 : un [80, 81, 7961, 7962] h100 h164 := hv164.mono (by decide)
                      obtain ⟨b165, rfl, t166, t167⟩ := hr162
                      show uRun _ (uCall Mt _) _ 155 (_, [(.inl (bi b165))], _, _, _)
                      refine ur_eqB rfl (fun c168 => ?_) (fun c168 => ?_)
                      · have t169 := t167 c168
                        clear t166 t167
                        refine ur_incV (fun z => [some (.inr (.inr (some 69))), some (.inl a1), some (.inl a2), some (.inl a3), some (.inl x18), some (.inl x64), some (.inl x70), some (.inl x92), some (.inl z)]) rfl rfl (fun _ => rfl) (fun x170 e171 => ?_)
                        have t172 := ti_add e171 (by omega) (by omega)
                        refine ur_go rfl ?_
                        obtain ⟨fs173, hc174⟩ := hO164.mod
                        obtain ⟨f175, p176, t177⟩ := mf_4 hO164 hc174
                        have t178 := fI_of hc174 p176
                        obtain ⟨f179, p180, t181⟩ := mf_34 hO164 hc174
                        have t182 := fI_of hc174 p180
                        obtain ⟨f183, p184⟩ := mf_61 hO164 hc174
                        have t185 := fI_of hc174 p184
                        obtain ⟨f186, p187⟩ := mf_62 hO164 hc174
                        have t188 := fI_of hc174 p187
                        have z189 := any_r x170
                        exact ih99 x170 _ hO164 (hu100.tr hu164) (by omega) (px101.s (fun q => absurd q.1 (by have q := t169; rw [gI_keep (a := 74) (kd := 0) (n := 12) hO0 (hu26.tr (hu63.tr hu100)) a2.toInt (by decide) rfl (by decide) rfl (by decide) (by decide), gI_keep (a := 76) (kd := 0) (n := 12) hO0 (hu26.tr (hu63.tr hu100)) a2.toInt (by decide) rfl (by decide) rfl (by decide) (by decide), gI_keep (a := 75) (kd := 0) (n := 12) hO0 (hu26.tr (hu63.tr hu100)) a2.toInt (by decide) rfl (by decide) rfl (by decide) (by decide), gI_keep (a := 77) (kd := 0) (n := 12) hO0 (hu26.tr (hu63.tr hu100)) a2.toInt (by decide) rfl (by decide) rfl (by decide) (by decide), show x142.toInt = gI h0 93 a1.toInt by omega] at q; exact q)) (by omega)) ⟨((fI_keep (k := 61) hO100 hO164 hv164 rfl (by decide))).trans px102.1, ((fI_keep (k := 62) hO100 hO164 hv164 rfl (by decide))).trans px102.2⟩ (px103.un hO100 hO164 hv164 (by decide)) (by omega)
                      · have t190 := t166 c168
                        clear t166 t167
                        refine ur_ldA rfl rfl ?_
                        refine ur_ldI rfl rfl ?_
                        refine ur_ldA rfl rfl ?_
                        obtain ⟨fs191, hc192⟩ := hO164.mod
                        refine ur_get rfl hc192 (mf_35 hO164 hc192) ?_
                        refine ur_ldI rfl rfl ?_
                        refine ur_aldV rfl (hv164.ka (n := 10) hc138 hn140 rfl (by decide) (wid_f (by decide)) (by decide)) hn140 (by omega) (fun x193 hx194 => ?_)
                        obtain rfl : x142 = x193 := Option.some.inj (hx143.symm.trans hx194)
                        refine ur_ldI rfl rfl ?_
                        obtain ⟨f195, p196, t197⟩ := mf_4 hO164 hc192
                        have t198 := fI_of hc192 p196
                        have t199 := fI_keep (k := 4) hO0 hO164 (hu26.tr (hu63.tr (hu100.tr hu164))) rfl (by decide)
                        have t200 := fI_keep (k := 34) hO0 hO164 (hu26.tr (hu63.tr (hu100.tr hu164))) rfl (by decide)
                        refine ur_inl rfl (rcv_of hc192) (Nat.le_of_ble_eq_true rfl) (Nat.le_of_ble_eq_true rfl) (se_X12_seenBy hO164 (hX0.un hO0 hO164 (hu26.tr (hu63.tr (hu100.tr hu164))) (by decide)) _ (by show 0 ≤ a3.toInt ∧ a3.toInt ≤ 11; omega) _ (by show 0 ≤ x142.toInt ∧ x142.toInt ≤ 8; omega) _ (by show 0 ≤ x96.toInt ∧ x96.toInt ≤ 999999; omega) (px103.un hO100 hO164 hv164 (by decide)) (by omega) (pre4.keep (KN.un hO0 (hu26.tr (hu63.tr (hu100.tr hu164))) (by decide) (by decide) (by decide) (by decide) (by decide)) (by decide)) pre5 (fun w201 h204 hr202 hO204 hv204 hp203 => ?_))
                        have hu204 : un [80, 81, 7961, 7962] h164 h204 := hv204.mono (by decide)
                        obtain ⟨x205, rfl, f206⟩ := hr202
                        show uRun _ (uCall Mt _) _ 171 (_, [(.inl x205)], _, _, _)
                        refine ur_push rfl ?_
                        refine ur_if2 rfl (fun c207 => ?_) (fun c207 => ?_)
                        · have t208 := lt_to c207
                          refine ur_ldA rfl rfl ?_
                          refine ur_ldI rfl rfl ?_
                          obtain ⟨fs209, hc210⟩ := hO204.mod
                          obtain ⟨f211, p212⟩ := mf_61 hO204 hc210
                          have t213 := fI_of hc210 p212
                          have t214 := fI_keep (k := 4) hO0 hO204 (hu26.tr (hu63.tr (hu100.tr (hu164.tr hu204)))) rfl (by decide)
                          have t215 := fI_keep (k := 34) hO0 hO204 (hu26.tr (hu63.tr (hu100.tr (hu164.tr hu204)))) rfl (by decide)
                          refine ur_putM (W := [7961]) rfl hO204 hc210 (by decide) rfl (ms_61 (hO204.msh hc210)) (Or.inr (by decide)) (fun h217 hO217 hv217 d216 hc218 => ?_)
                          have hu217 : un [80, 81, 7961, 7962] h204 h217 := hv217.mono (by decide)
                          have t219 := fI_of hc218 (gs_eq p212)
                          refine ur_ldA rfl rfl ?_
                          refine ur_ldA rfl rfl ?_
                          refine ur_get rfl hc218 (mf_35 hO217 hc218) ?_
                          refine ur_ldI rfl rfl ?_
                          refine ur_aldV rfl ((d216 _ (by decide)).trans (hv204.ka (n := 10) (hv164.ka (n := 10) hc138 hn140 rfl (by decide) (wid_f (by decide)) (by decide)) hn140 rfl (by decide) (wid_f (by decide)) (by decide))) hn140 (by omega) (fun x220 hx221 => ?_)
                          obtain rfl : x142 = x220 := Option.some.inj (hx143.symm.trans hx221)
                          obtain ⟨f222, p223⟩ := mf_62 hO217 hc218
                          have t224 := fI_of hc218 p223
                          have t225 := fI_keep (k := 4) hO0 hO217 (hu26.tr (hu63.tr (hu100.tr (hu164.tr (hu204.tr hu217))))) rfl (by decide)
                          have t226 := fI_keep (k := 34) hO0 hO217 (hu26.tr (hu63.tr (hu100.tr (hu164.tr (hu204.tr hu217))))) rfl (by decide)
                          refine ur_putM (W := [7962]) rfl hO217 hc218 (by decide) rfl (ms_62 (hO217.msh hc218)) (Or.inr (by decide)) (fun h228 hO228 hv228 d227 hc229 => ?_)
                          have hu228 : un [80, 81, 7961, 7962] h217 h228 := hv228.mono (by decide)
                          have t230 := fI_of hc229 (gs_ne (gs_eq p212) (by decide))
                          have t231 := fI_of hc229 (gs_eq p223)
                          refine ur_go rfl ?_
                          refine ur_incV (fun z => [some (.inr (.inr (some 69))), some (.inl a1), some (.inl a2), some (.inl a3), some (.inl z), some (.inl x64), some (.inl x70), some (.inl x92), some (.inl x96)]) rfl rfl (fun _ => rfl) (fun x232 e233 => ?_)
                          have z234 := any_r x18
                          have t235 := ti_add e233 (by omega) (by omega)
                          refine ur_go rfl ?_
                          obtain ⟨f236, p237, t238⟩ := mf_4 hO228 hc229
                          have t239 := fI_of hc229 p237
                          obtain ⟨f240, p241, t242⟩ := mf_34 hO228 hc229
                          have t243 := fI_of hc229 p241
                          have z244 := any_r x232
                          have nc245 := NCd_s (h := h228)
                          exact ih25 x232 _ _ _ _ _ hO228 (hu26.tr (hu63.tr (hu100.tr (hu164.tr (hu204.tr (hu217.tr hu228)))))) (by omega) (px27.sr (p := (gI h0 93 a1.toInt)) (lo := x70.toInt) (hi := x92.toInt) (s := x96.toInt) (E := fun d => canP ls (gI h0 74 a2.toInt) (gI h0 76 a2.toInt) (gI h0 75 a2.toInt) (gI h0 77 a2.toInt) (gI h0 93 a1.toInt) x64.toInt d ∧ (LRq (-60) 61 (fun j t => retV (NMh h0 (gI h0 73 a3.toInt)) (gI h0 73 a3.toInt) (gI h0 72 a3.toInt) j t) (fun t => canP ls (gI h0 74 a3.toInt) (gI h0 76 a3.toInt) (gI h0 75 a3.toInt) (gI h0 77 a3.toInt) (gI h0 93 a1.toInt) t d))) (by omega) (by omega) px101 (by omega) (fun c => (LOD.s r66 (fun t' r => retV_f r66 r (by omega)) (by omega) (by omega) (by omega)).trans (or_congr Iff.rfl (CWd.e (p := (gI h0 93 a1.toInt)) (t := x64.toInt) rfl (by omega) (by omega) (fun q d h => h.1.1)))) (Or.inr ⟨by omega, by omega, ⟨(by have q := t190; rw [gI_keep (a := 74) (kd := 0) (n := 12) hO0 (hu26.tr (hu63.tr hu100)) a2.toInt (by decide) rfl (by decide) rfl (by decide) (by decide), gI_keep (a := 76) (kd := 0) (n := 12) hO0 (hu26.tr (hu63.tr hu100)) a2.toInt (by decide) rfl (by decide) rfl (by decide) (by decide), gI_keep (a := 75) (kd := 0) (n := 12) hO0 (hu26.tr (hu63.tr hu100)) a2.toInt (by decide) rfl (by decide) rfl (by decide) (by decide), gI_keep (a := 77) (kd := 0) (n := 12) hO0 (hu26.tr (hu63.tr hu100)) a2.toInt (by decide) rfl (by decide) rfl (by decide) (by decide), show x142.toInt = gI h0 93 a1.toInt by omega] at q; exact q), LRf.n (by have q := f206.1; rw [gI_keep (a := 73) (kd := 0) (n := 12) hO0 (hu26.tr (hu63.tr (hu100.tr hu164))) a3.toInt (by decide) rfl (by decide) rfl (by decide) (by decide), gI_keep (a := 72) (kd := 0) (n := 12) hO0 (hu26.tr (hu63.tr (hu100.tr hu164))) a3.toInt (by decide) rfl (by decide) rfl (by decide) (by decide), show NMh h164 (gI h0 73 a3.toInt) = NMh h0 (gI h0 73 a3.toInt) from nxM_un hO0 hO164 (hu26.tr (hu63.tr (hu100.tr hu164))) (by decide) (by decide) (by decide) _, gI_keep (a := 74) (kd := 0) (n := 12) hO0 (hu26.tr (hu63.tr (hu100.tr hu164))) a3.toInt (by decide) rfl (by decide) rfl (by decide) (by decide), gI_keep (a := 76) (kd := 0) (n := 12) hO0 (hu26.tr (hu63.tr (hu100.tr hu164))) a3.toInt (by decide) rfl (by decide) rfl (by decide) (by decide), gI_keep (a := 75) (kd := 0) (n := 12) hO0 (hu26.tr (hu63.tr (hu100.tr hu164))) a3.toInt (by decide) rfl (by decide) rfl (by decide) (by decide), gI_keep (a := 77) (kd := 0) (n := 12) hO0 (hu26.tr (hu63.tr (hu100.tr hu164))) a3.toInt (by decide) rfl (by decide) rfl (by decide) (by decide), show x142.toInt = gI h0 93 a1.toInt by omega] at q; exact q) (by omega)⟩, by omega⟩)) ⟨fun q => by omega, fun q => by omega⟩ ((hp203.un hO204 hO217 hv217 (by decide)).un hO217 hO228 hv228 (by decide)) (by omega)
                        · have t246 := lt_no c207
                          refine ur_go rfl ?_
                          refine ur_incV (fun z => [some (.inr (.inr (some 69))), some (.inl a1), some (.inl a2), some (.inl a3), some (.inl x18), some (.inl x64), some (.inl x70), some (.inl x92), some (.inl z)]) rfl rfl (fun _ => rfl) (fun x247 e248 => ?_)
                          have t249 := ti_add e248 (by omega) (by omega)
                          refine ur_go rfl ?_
                          obtain ⟨fs250, hc251⟩ := hO204.mod
                          obtain ⟨f252, p253, t254⟩ := mf_4 hO204 hc251
                          have t255 := fI_of hc251 p253
                          obtain ⟨f256, p257, t258⟩ := mf_34 hO204 hc251
                          have t259 := fI_of hc251 p257
                          obtain ⟨f260, p261⟩ := mf_61 hO204 hc251
                          have t262 := fI_of hc251 p261
                          obtain ⟨f263, p264⟩ := mf_62 hO204 hc251
                          have t265 := fI_of hc251 p264
                          have z266 := any_r x247
                          exact ih99 x247 _ hO204 (hu100.tr (hu164.tr hu204)) (by omega) (px101.s (fun q => (LRf.y (R := (fun j t => retV (NMh h0 (gI h0 73 a3.toInt)) (gI h0 73 a3.toInt) (gI h0 72 a3.toInt) j t)) (P := (fun t => canP ls (gI h0 74 a3.toInt) (gI h0 76 a3.toInt) (gI h0 75 a3.toInt) (gI h0 77 a3.toInt) (gI h0 93 a1.toInt) t x96.toInt)) (x := x205.toInt) (by have q := f206.1; rw [gI_keep (a := 73) (kd := 0) (n := 12) hO0 (hu26.tr (hu63.tr (hu100.tr hu164))) a3.toInt (by decide) rfl (by decide) rfl (by decide) (by decide), gI_keep (a := 72) (kd := 0) (n := 12) hO0 (hu26.tr (hu63.tr (hu100.tr hu164))) a3.toInt (by decide) rfl (by decide) rfl (by decide) (by decide), show NMh h164 (gI h0 73 a3.toInt) = NMh h0 (gI h0 73 a3.toInt) from nxM_un hO0 hO164 (hu26.tr (hu63.tr (hu100.tr hu164))) (by decide) (by decide) (by decide) _, gI_keep (a := 74) (kd := 0) (n := 12) hO0 (hu26.tr (hu63.tr (hu100.tr hu164))) a3.toInt (by decide) rfl (by decide) rfl (by decide) (by decide), gI_keep (a := 76) (kd := 0) (n := 12) hO0 (hu26.tr (hu63.tr (hu100.tr hu164))) a3.toInt (by decide) rfl (by decide) rfl (by decide) (by decide), gI_keep (a := 75) (kd := 0) (n := 12) hO0 (hu26.tr (hu63.tr (hu100.tr hu164))) a3.toInt (by decide) rfl (by decide) rfl (by decide) (by decide), gI_keep (a := 77) (kd := 0) (n := 12) hO0 (hu26.tr (hu63.tr (hu100.tr hu164))) a3.toInt (by decide) rfl (by decide) rfl (by decide) (by decide), show x142.toInt = gI h0 93 a1.toInt by omega] at q; exact q) (by omega) (fun j t t' j0 j1 r r' => retV_f r r' ⟨j0, j1⟩)) q.2) (by omega)) ⟨(((fI_keep (k := 61) hO164 hO204 hv204 rfl (by decide)).trans (fI_keep (k := 61) hO100 hO164 hv164 rfl (by decide)))).trans px102.1, (((fI_keep (k := 62) hO164 hO204 hv204 rfl (by decide)).trans (fI_keep (k := 62) hO100 hO164 hv164 rfl (by decide)))).trans px102.2⟩ hp203 (by omega)
                    · have t267 := lt_no c136
                      refine ur_ldI rfl rfl ?_
                      refine ur_ldA rfl rfl ?_
                      refine ur_get rfl hc107 p109 ?_
                      have z268 := any_r f108
                      refine ur_if2 rfl (fun c269 => ?_) (fun c269 => ?_)
                      · have t270 := lt_to c269
                        refine ur_incV (fun z => [some (.inr (.inr (some 69))), some (.inl a1), some (.inl a2), some (.inl a3), some (.inl z), some (.inl x64), some (.inl x70), some (.inl x92), some (.inl x96)]) rfl rfl (fun _ => rfl) (fun x271 e272 => ?_)
                        have z273 := any_r x18
                        have t274 := ti_add e272 (by omega) (by omega)
                        refine ur_go rfl ?_
                        obtain ⟨f275, p276, t277⟩ := mf_4 hO100 hc107
                        have t278 := fI_of hc107 p276
                        obtain ⟨f279, p280, t281⟩ := mf_34 hO100 hc107
                        have t282 := fI_of hc107 p280
                        have z283 := any_r x271
                        have nc284 := NCd_s (h := h100)
                        have tt285 : fI h100 61 = fI h100 61 := rfl
                        have tt286 : fI h100 62 = fI h100 62 := rfl
                        exact ih25 x271 _ _ _ _ _ hO100 (hu26.tr (hu63.tr hu100)) (by omega) (px27.sr (p := (gI h0 93 a1.toInt)) (lo := x70.toInt) (hi := x92.toInt) (s := x96.toInt) (E := fun d => canP ls (gI h0 74 a2.toInt) (gI h0 76 a2.toInt) (gI h0 75 a2.toInt) (gI h0 77 a2.toInt) (gI h0 93 a1.toInt) x64.toInt d ∧ (LRq (-60) 61 (fun j t => retV (NMh h0 (gI h0 73 a3.toInt)) (gI h0 73 a3.toInt) (gI h0 72 a3.toInt) j t) (fun t => canP ls (gI h0 74 a3.toInt) (gI h0 76 a3.toInt) (gI h0 75 a3.toInt) (gI h0 77 a3.toInt) (gI h0 93 a1.toInt) t d))) (by omega) (by omega) px101 (by omega) (fun c => (LOD.s r66 (fun t' r => retV_f r66 r (by omega)) (by omega) (by omega) (by omega)).trans (or_congr Iff.rfl (CWd.e (p := (gI h0 93 a1.toInt)) (t := x64.toInt) rfl (by omega) (by omega) (fun q d h => h.1.1)))) (Or.inl ⟨by omega, by omega⟩)) ⟨fun q => by omega, fun q => by omega⟩ px103 (by omega)
                      · have t287 := lt_no c269
                        refine ur_ldI rfl rfl ?_
                        refine ur_ldA rfl rfl ?_
                        refine ur_get rfl hc107 p109 ?_
                        refine ur_if2 rfl (fun c288 => ?_) (fun c288 => ?_)
                        · have t289 := ne_to c288
                          refine ur_ldA rfl rfl ?_
                          refine ur_ldI rfl rfl ?_
                          refine ur_ldI rfl rfl ?_
                          refine ur_ldA rfl rfl ?_
                          refine ur_get rfl hc107 (mf_35 hO100 hc107) ?_
                          refine ur_ldI rfl rfl ?_
                          obtain ⟨xs291, hc290, hn292, he293⟩ := hO100.int (hO100.fix 93 (by decide) rfl)
                          refine ur_aldV rfl hc290 hn292 (by omega) (fun x294 hx295 => ?_)
                          have t296 := gI_of (j := a1) hc290 hx295
                          have t297 := gI_keep (a := 93) (kd := 0) (n := 10) hO0 (hu26.tr (hu63.tr hu100)) (a1 : Int32).toInt (by decide) rfl (by decide) rfl (by decide) (by decide)
                          refine ur_ldI rfl rfl ?_
                          obtain ⟨f298, p299, t300⟩ := mf_4 hO100 hc107
                          have t301 := fI_of hc107 p299
                          obtain ⟨f302, p303⟩ := mf_15 hO100 hc107
                          have t304 := fI_of hc107 p303
                          obtain ⟨f305, p306⟩ := mf_16 hO100 hc107
                          have t307 := fI_of hc107 p306
                          obtain ⟨f308, p309⟩ := mf_17 hO100 hc107
                          have t310 := fI_of hc107 p309
                          have t311 := fI_keep (k := 4) hO0 hO100 (hu26.tr (hu63.tr hu100)) rfl (by decide)
                          have t312 := fI_keep (k := 34) hO0 hO100 (hu26.tr (hu63.tr hu100)) rfl (by decide)
                          refine ur_inl rfl (rcv_of hc107) (Nat.le_of_ble_eq_true rfl) (Nat.le_of_ble_eq_true rfl) (sd_X12_canSee hO100 (hX0.un hO0 hO100 (hu26.tr (hu63.tr hu100)) (by decide)) _ (by show 0 ≤ a2.toInt ∧ a2.toInt ≤ 11; omega) _ (by show -20000 ≤ x64.toInt ∧ x64.toInt ≤ 1020000; omega) _ (by show 0 ≤ x294.toInt ∧ x294.toInt ≤ 8; omega) _ (by show 0 ≤ x96.toInt ∧ x96.toInt ≤ 999999; omega) px103 (by omega) (pre4.keep (KN.un hO0 (hu26.tr (hu63.tr hu100)) (by decide) (by decide) (by decide) (by decide) (by decide)) (by decide)) pre5 (fun w313 h316 hr314 hO316 hv316 hp315 => ?_))
                          have hu316 : un [80, 81, 7961, 7962] h100 h316 := hv316.mono (by decide)
                          obtain ⟨b317, rfl, t318, t319⟩ := hr314
                          show uRun _ (uCall Mt _) _ 155 (_, [(.inl (bi b317))], _, _, _)
                          refine ur_eqB rfl (fun c320 => ?_) (fun c320 => ?_)
                          · have t321 := t319 c320
                            clear t318 t319
                            refine ur_incV (fun z => [some (.inr (.inr (some 69))), some (.inl a1), some (.inl a2), some (.inl a3), some (.inl x18), some (.inl x64), some (.inl x70), some (.inl x92), some (.inl z)]) rfl rfl (fun _ => rfl) (fun x322 e323 => ?_)
                            have t324 := ti_add e323 (by omega) (by omega)
                            refine ur_go rfl ?_
                            obtain ⟨fs325, hc326⟩ := hO316.mod
                            obtain ⟨f327, p328, t329⟩ := mf_4 hO316 hc326
                            have t330 := fI_of hc326 p328
                            obtain ⟨f331, p332, t333⟩ := mf_34 hO316 hc326
                            have t334 := fI_of hc326 p332
                            obtain ⟨f335, p336⟩ := mf_61 hO316 hc326
                            have t337 := fI_of hc326 p336
                            obtain ⟨f338, p339⟩ := mf_62 hO316 hc326
                            have t340 := fI_of hc326 p339
                            have z341 := any_r x322
                            exact ih99 x322 _ hO316 (hu100.tr hu316) (by omega) (px101.s (fun q => absurd q.1 (by have q := t321; rw [gI_keep (a := 74) (kd := 0) (n := 12) hO0 (hu26.tr (hu63.tr hu100)) a2.toInt (by decide) rfl (by decide) rfl (by decide) (by decide), gI_keep (a := 76) (kd := 0) (n := 12) hO0 (hu26.tr (hu63.tr hu100)) a2.toInt (by decide) rfl (by decide) rfl (by decide) (by decide), gI_keep (a := 75) (kd := 0) (n := 12) hO0 (hu26.tr (hu63.tr hu100)) a2.toInt (by decide) rfl (by decide) rfl (by decide) (by decide), gI_keep (a := 77) (kd := 0) (n := 12) hO0 (hu26.tr (hu63.tr hu100)) a2.toInt (by decide) rfl (by decide) rfl (by decide) (by decide), show x294.toInt = gI h0 93 a1.toInt by omega] at q; exact q)) (by omega)) ⟨((fI_keep (k := 61) hO100 hO316 hv316 rfl (by decide))).trans px102.1, ((fI_keep (k := 62) hO100 hO316 hv316 rfl (by decide))).trans px102.2⟩ (px103.un hO100 hO316 hv316 (by decide)) (by omega)
                          · have t342 := t318 c320
                            clear t318 t319
                            refine ur_ldA rfl rfl ?_
                            refine ur_ldI rfl rfl ?_
                            refine ur_ldA rfl rfl ?_
                            obtain ⟨fs343, hc344⟩ := hO316.mod
                            refine ur_get rfl hc344 (mf_35 hO316 hc344) ?_
                            refine ur_ldI rfl rfl ?_
                            refine ur_aldV rfl (hv316.ka (n := 10) hc290 hn292 rfl (by decide) (wid_f (by decide)) (by decide)) hn292 (by omega) (fun x345 hx346 => ?_)
                            obtain rfl : x294 = x345 := Option.some.inj (hx295.symm.trans hx346)
                            refine ur_ldI rfl rfl ?_
                            obtain ⟨f347, p348, t349⟩ := mf_4 hO316 hc344
                            have t350 := fI_of hc344 p348
                            have t351 := fI_keep (k := 4) hO0 hO316 (hu26.tr (hu63.tr (hu100.tr hu316))) rfl (by decide)
                            have t352 := fI_keep (k := 34) hO0 hO316 (hu26.tr (hu63.tr (hu100.tr hu316))) rfl (by decide)
                            refine ur_inl rfl (rcv_of hc344) (Nat.le_of_ble_eq_true rfl) (Nat.le_of_ble_eq_true rfl) (se_X12_seenBy hO316 (hX0.un hO0 hO316 (hu26.tr (hu63.tr (hu100.tr hu316))) (by decide)) _ (by show 0 ≤ a3.toInt ∧ a3.toInt ≤ 11; omega) _ (by show 0 ≤ x294.toInt ∧ x294.toInt ≤ 8; omega) _ (by show 0 ≤ x96.toInt ∧ x96.toInt ≤ 999999; omega) (px103.un hO100 hO316 hv316 (by decide)) (by omega) (pre4.keep (KN.un hO0 (hu26.tr (hu63.tr (hu100.tr hu316))) (by decide) (by decide) (by decide) (by decide) (by decide)) (by decide)) pre5 (fun w353 h356 hr354 hO356 hv356 hp355 => ?_))
                            have hu356 : un [80, 81, 7961, 7962] h316 h356 := hv356.mono (by decide)
                            obtain ⟨x357, rfl, f358⟩ := hr354
                            show uRun _ (uCall Mt _) _ 171 (_, [(.inl x357)], _, _, _)
                            refine ur_push rfl ?_
                            refine ur_if2 rfl (fun c359 => ?_) (fun c359 => ?_)
                            · have t360 := lt_to c359
                              refine ur_ldA rfl rfl ?_
                              refine ur_ldI rfl rfl ?_
                              obtain ⟨fs361, hc362⟩ := hO356.mod
                              obtain ⟨f363, p364⟩ := mf_61 hO356 hc362
                              have t365 := fI_of hc362 p364
                              have t366 := fI_keep (k := 4) hO0 hO356 (hu26.tr (hu63.tr (hu100.tr (hu316.tr hu356)))) rfl (by decide)
                              have t367 := fI_keep (k := 34) hO0 hO356 (hu26.tr (hu63.tr (hu100.tr (hu316.tr hu356)))) rfl (by decide)
                              refine ur_putM (W := [7961]) rfl hO356 hc362 (by decide) rfl (ms_61 (hO356.msh hc362)) (Or.inr (by decide)) (fun h369 hO369 hv369 d368 hc370 => ?_)
                              have hu369 : un [80, 81, 7961, 7962] h356 h369 := hv369.mono (by decide)
                              have t371 := fI_of hc370 (gs_eq p364)
                              refine ur_ldA rfl rfl ?_
                              refine ur_ldA rfl rfl ?_
                              refine ur_get rfl hc370 (mf_35 hO369 hc370) ?_
                              refine ur_ldI rfl rfl ?_
                              refine ur_aldV rfl ((d368 _ (by decide)).trans (hv356.ka (n := 10) (hv316.ka (n := 10) hc290 hn292 rfl (by decide) (wid_f (by decide)) (by decide)) hn292 rfl (by decide) (wid_f (by decide)) (by decide))) hn292 (by omega) (fun x372 hx373 => ?_)
                              obtain rfl : x294 = x372 := Option.some.inj (hx295.symm.trans hx373)
                              obtain ⟨f374, p375⟩ := mf_62 hO369 hc370
                              have t376 := fI_of hc370 p375
                              have t377 := fI_keep (k := 4) hO0 hO369 (hu26.tr (hu63.tr (hu100.tr (hu316.tr (hu356.tr hu369))))) rfl (by decide)
                              have t378 := fI_keep (k := 34) hO0 hO369 (hu26.tr (hu63.tr (hu100.tr (hu316.tr (hu356.tr hu369))))) rfl (by decide)
                              refine ur_putM (W := [7962]) rfl hO369 hc370 (by decide) rfl (ms_62 (hO369.msh hc370)) (Or.inr (by decide)) (fun h380 hO380 hv380 d379 hc381 => ?_)
                              have hu380 : un [80, 81, 7961, 7962] h369 h380 := hv380.mono (by decide)
                              have t382 := fI_of hc381 (gs_ne (gs_eq p364) (by decide))
                              have t383 := fI_of hc381 (gs_eq p375)
                              refine ur_go rfl ?_
                              refine ur_incV (fun z => [some (.inr (.inr (some 69))), some (.inl a1), some (.inl a2), some (.inl a3), some (.inl z), some (.inl x64), some (.inl x70), some (.inl x92), some (.inl x96)]) rfl rfl (fun _ => rfl) (fun x384 e385 => ?_)
                              have z386 := any_r x18
                              have t387 := ti_add e385 (by omega) (by omega)
                              refine ur_go rfl ?_
                              obtain ⟨f388, p389, t390⟩ := mf_4 hO380 hc381
                              have t391 := fI_of hc381 p389
                              obtain ⟨f392, p393, t394⟩ := mf_34 hO380 hc381
                              have t395 := fI_of hc381 p393
                              have z396 := any_r x384
                              have nc397 := NCd_s (h := h380)
                              exact ih25 x384 _ _ _ _ _ hO380 (hu26.tr (hu63.tr (hu100.tr (hu316.tr (hu356.tr (hu369.tr hu380)))))) (by omega) (px27.sr (p := (gI h0 93 a1.toInt)) (lo := x70.toInt) (hi := x92.toInt) (s := x96.toInt) (E := fun d => canP ls (gI h0 74 a2.toInt) (gI h0 76 a2.toInt) (gI h0 75 a2.toInt) (gI h0 77 a2.toInt) (gI h0 93 a1.toInt) x64.toInt d ∧ (LRq (-60) 61 (fun j t => retV (NMh h0 (gI h0 73 a3.toInt)) (gI h0 73 a3.toInt) (gI h0 72 a3.toInt) j t) (fun t => canP ls (gI h0 74 a3.toInt) (gI h0 76 a3.toInt) (gI h0 75 a3.toInt) (gI h0 77 a3.toInt) (gI h0 93 a1.toInt) t d))) (by omega) (by omega) px101 (by omega) (fun c => (LOD.s r66 (fun t' r => retV_f r66 r (by omega)) (by omega) (by omega) (by omega)).trans (or_congr Iff.rfl (CWd.e (p := (gI h0 93 a1.toInt)) (t := x64.toInt) rfl (by omega) (by omega) (fun q d h => h.1.1)))) (Or.inr ⟨by omega, by omega, ⟨(by have q := t342; rw [gI_keep (a := 74) (kd := 0) (n := 12) hO0 (hu26.tr (hu63.tr hu100)) a2.toInt (by decide) rfl (by decide) rfl (by decide) (by decide), gI_keep (a := 76) (kd := 0) (n := 12) hO0 (hu26.tr (hu63.tr hu100)) a2.toInt (by decide) rfl (by decide) rfl (by decide) (by decide), gI_keep (a := 75) (kd := 0) (n := 12) hO0 (hu26.tr (hu63.tr hu100)) a2.toInt (by decide) rfl (by decide) rfl (by decide) (by decide), gI_keep (a := 77) (kd := 0) (n := 12) hO0 (hu26.tr (hu63.tr hu100)) a2.toInt (by decide) rfl (by decide) rfl (by decide) (by decide), show x294.toInt = gI h0 93 a1.toInt by omega] at q; exact q), LRf.n (by have q := f358.1; rw [gI_keep (a := 73) (kd := 0) (n := 12) hO0 (hu26.tr (hu63.tr (hu100.tr hu316))) a3.toInt (by decide) rfl (by decide) rfl (by decide) (by decide), gI_keep (a := 72) (kd := 0) (n := 12) hO0 (hu26.tr (hu63.tr (hu100.tr hu316))) a3.toInt (by decide) rfl (by decide) rfl (by decide) (by decide), show NMh h316 (gI h0 73 a3.toInt) = NMh h0 (gI h0 73 a3.toInt) from nxM_un hO0 hO316 (hu26.tr (hu63.tr (hu100.tr hu316))) (by decide) (by decide) (by decide) _, gI_keep (a := 74) (kd := 0) (n := 12) hO0 (hu26.tr (hu63.tr (hu100.tr hu316))) a3.toInt (by decide) rfl (by decide) rfl (by decide) (by decide), gI_keep (a := 76) (kd := 0) (n := 12) hO0 (hu26.tr (hu63.tr (hu100.tr hu316))) a3.toInt (by decide) rfl (by decide) rfl (by decide) (by decide), gI_keep (a := 75) (kd := 0) (n := 12) hO0 (hu26.tr (hu63.tr (hu100.tr hu316))) a3.toInt (by decide) rfl (by decide) rfl (by decide) (by decide), gI_keep (a := 77) (kd := 0) (n := 12) hO0 (hu26.tr (hu63.tr (hu100.tr hu316))) a3.toInt (by decide) rfl (by decide) rfl (by decide) (by decide), show x294.toInt = gI h0 93 a1.toInt by omega] at q; exact q) (by omega)⟩, by omega⟩)) ⟨fun q => by omega, fun q => by omega⟩ ((hp355.un hO356 hO369 hv369 (by decide)).un hO369 hO380 hv380 (by decide)) (by omega)
                            · have t398 := lt_no c359
                              refine ur_go rfl ?_
                              refine ur_incV (fun z => [some (.inr (.inr (some 69))), some (.inl a1), some (.inl a2), some (.inl a3), some (.inl x18), some (.inl x64), some (.inl x70), some (.inl x92), some (.inl z)]) rfl rfl (fun _ => rfl) (fun x399 e400 => ?_)
                              have t401 := ti_add e400 (by omega) (by omega)
                              refine ur_go rfl ?_
                              obtain ⟨fs402, hc403⟩ := hO356.mod
                              obtain ⟨f404, p405, t406⟩ := mf_4 hO356 hc403
                              have t407 := fI_of hc403 p405
                              obtain ⟨f408, p409, t410⟩ := mf_34 hO356 hc403
                              have t411 := fI_of hc403 p409
                              obtain ⟨f412, p413⟩ := mf_61 hO356 hc403
                              have t414 := fI_of hc403 p413
                              obtain ⟨f415, p416⟩ := mf_62 hO356 hc403
                              have t417 := fI_of hc403 p416
                              have z418 := any_r x399
                              exact ih99 x399 _ hO356 (hu100.tr (hu316.tr hu356)) (by omega) (px101.s (fun q => (LRf.y (R := (fun j t => retV (NMh h0 (gI h0 73 a3.toInt)) (gI h0 73 a3.toInt) (gI h0 72 a3.toInt) j t)) (P := (fun t => canP ls (gI h0 74 a3.toInt) (gI h0 76 a3.toInt) (gI h0 75 a3.toInt) (gI h0 77 a3.toInt) (gI h0 93 a1.toInt) t x96.toInt)) (x := x357.toInt) (by have q := f358.1; rw [gI_keep (a := 73) (kd := 0) (n := 12) hO0 (hu26.tr (hu63.tr (hu100.tr hu316))) a3.toInt (by decide) rfl (by decide) rfl (by decide) (by decide), gI_keep (a := 72) (kd := 0) (n := 12) hO0 (hu26.tr (hu63.tr (hu100.tr hu316))) a3.toInt (by decide) rfl (by decide) rfl (by decide) (by decide), show NMh h316 (gI h0 73 a3.toInt) = NMh h0 (gI h0 73 a3.toInt) from nxM_un hO0 hO316 (hu26.tr (hu63.tr (hu100.tr hu316))) (by decide) (by decide) (by decide) _, gI_keep (a := 74) (kd := 0) (n := 12) hO0 (hu26.tr (hu63.tr (hu100.tr hu316))) a3.toInt (by decide) rfl (by decide) rfl (by decide) (by decide), gI_keep (a := 76) (kd := 0) (n := 12) hO0 (hu26.tr (hu63.tr (hu100.tr hu316))) a3.toInt (by decide) rfl (by decide) rfl (by decide) (by decide), gI_keep (a := 75) (kd := 0) (n := 12) hO0 (hu26.tr (hu63.tr (hu100.tr hu316))) a3.toInt (by decide) rfl (by decide) rfl (by decide) (by decide), gI_keep (a := 77) (kd := 0) (n := 12) hO0 (hu26.tr (hu63.tr (hu100.tr hu316))) a3.toInt (by decide) rfl (by decide) rfl (by decide) (by decide), show x294.toInt = gI h0 93 a1.toInt by omega] at q; exact q) (by omega) (fun j t t' j0 j1 r r' => retV_f r r' ⟨j0, j1⟩)) q.2) (by omega)) ⟨(((fI_keep (k := 61) hO316 hO356 hv356 rfl (by decide)).trans (fI_keep (k := 61) hO100 hO316 hv316 rfl (by decide)))).trans px102.1, (((fI_keep (k := 62) hO316 hO356 hv356 rfl (by decide)).trans (fI_keep (k := 62) hO100 hO316 hv316 rfl (by decide)))).trans px102.2⟩ hp355 (by omega)
                        · have t419 := ne_no c288
                          refine ur_ldA rfl rfl ?_
                          refine ur_get rfl hc107 (mf_35 hO100 hc107) ?_
                          refine ur_ldI rfl rfl ?_
                          obtain ⟨xs421, hc420, hn422, he423⟩ := hO100.int (hO100.fix 93 (by decide) rfl)
                          refine ur_aldV rfl hc420 hn422 (by omega) (fun x424 hx425 => ?_)
                          have t426 := gI_of (j := a1) hc420 hx425
                          have t427 := gI_keep (a := 93) (kd := 0) (n := 10) hO0 (hu26.tr (hu63.tr hu100)) (a1 : Int32).toInt (by decide) rfl (by decide) rfl (by decide) (by decide)
                          refine ur_ldA rfl rfl ?_
                          refine ur_get rfl hc107 p112 ?_
                          have z428 := any_r x424
                          have z429 := any_r f111
                          refine ur_if2 rfl (fun c430 => ?_) (fun c430 => ?_)
                          · have t431 := lt_to c430
                            refine ur_ldA rfl rfl ?_
                            refine ur_ldI rfl rfl ?_
                            refine ur_ldI rfl rfl ?_
                            refine ur_ldA rfl rfl ?_
                            refine ur_get rfl hc107 (mf_35 hO100 hc107) ?_
                            refine ur_ldI rfl rfl ?_
                            refine ur_aldV rfl hc420 hn422 (by omega) (fun x432 hx433 => ?_)
                            obtain rfl : x424 = x432 := Option.some.inj (hx425.symm.trans hx433)
                            refine ur_ldI rfl rfl ?_
                            obtain ⟨f434, p435, t436⟩ := mf_4 hO100 hc107
                            have t437 := fI_of hc107 p435
                            obtain ⟨f438, p439⟩ := mf_15 hO100 hc107
                            have t440 := fI_of hc107 p439
                            obtain ⟨f441, p442⟩ := mf_16 hO100 hc107
                            have t443 := fI_of hc107 p442
                            obtain ⟨f444, p445⟩ := mf_17 hO100 hc107
                            have t446 := fI_of hc107 p445
                            have t447 := fI_keep (k := 4) hO0 hO100 (hu26.tr (hu63.tr hu100)) rfl (by decide)
                            have t448 := fI_keep (k := 34) hO0 hO100 (hu26.tr (hu63.tr hu100)) rfl (by decide)
                            refine ur_inl rfl (rcv_of hc107) (Nat.le_of_ble_eq_true rfl) (Nat.le_of_ble_eq_true rfl) (sd_X12_canSee hO100 (hX0.un hO0 hO100 (hu26.tr (hu63.tr hu100)) (by decide)) _ (by show 0 ≤ a2.toInt ∧ a2.toInt ≤ 11; omega) _ (by show -20000 ≤ x64.toInt ∧ x64.toInt ≤ 1020000; omega) _ (by show 0 ≤ x424.toInt ∧ x424.toInt ≤ 8; omega) _ (by show 0 ≤ x96.toInt ∧ x96.toInt ≤ 999999; omega) px103 (by omega) (pre4.keep (KN.un hO0 (hu26.tr (hu63.tr hu100)) (by decide) (by decide) (by decide) (by decide) (by decide)) (by decide)) pre5 (fun w449 h452 hr450 hO452 hv452 hp451 => ?_))
                            have hu452 : un [80, 81, 7961, 7962] h100 h452 := hv452.mono (by decide)
                            obtain ⟨b453, rfl, t454, t455⟩ := hr450
                            show uRun _ (uCall Mt _) _ 155 (_, [(.inl (bi b453))], _, _, _)
                            refine ur_eqB rfl (fun c456 => ?_) (fun c456 => ?_)
                            · have t457 := t455 c456
                              clear t454 t455
                              refine ur_incV (fun z => [some (.inr (.inr (some 69))), some (.inl a1), some (.inl a2), some (.inl a3), some (.inl x18), some (.inl x64), some (.inl x70), some (.inl x92), some (.inl z)]) rfl rfl (fun _ => rfl) (fun x458 e459 => ?_)
                              have t460 := ti_add e459 (by omega) (by omega)
                              refine ur_go rfl ?_
                              obtain ⟨fs461, hc462⟩ := hO452.mod
                              obtain ⟨f463, p464, t465⟩ := mf_4 hO452 hc462
                              have t466 := fI_of hc462 p464
                              obtain ⟨f467, p468, t469⟩ := mf_34 hO452 hc462
                              have t470 := fI_of hc462 p468
                              obtain ⟨f471, p472⟩ := mf_61 hO452 hc462
                              have t473 := fI_of hc462 p472
                              obtain ⟨f474, p475⟩ := mf_62 hO452 hc462
                              have t476 := fI_of hc462 p475
                              have z477 := any_r x458
                              exact ih99 x458 _ hO452 (hu100.tr hu452) (by omega) (px101.s (fun q => absurd q.1 (by have q := t457; rw [gI_keep (a := 74) (kd := 0) (n := 12) hO0 (hu26.tr (hu63.tr hu100)) a2.toInt (by decide) rfl (by decide) rfl (by decide) (by decide), gI_keep (a := 76) (kd := 0) (n := 12) hO0 (hu26.tr (hu63.tr hu100)) a2.toInt (by decide) rfl (by decide) rfl (by decide) (by decide), gI_keep (a := 75) (kd := 0) (n := 12) hO0 (hu26.tr (hu63.tr hu100)) a2.toInt (by decide) rfl (by decide) rfl (by decide) (by decide), gI_keep (a := 77) (kd := 0) (n := 12) hO0 (hu26.tr (hu63.tr hu100)) a2.toInt (by decide) rfl (by decide) rfl (by decide) (by decide), show x424.toInt = gI h0 93 a1.toInt by omega] at q; exact q)) (by omega)) ⟨((fI_keep (k := 61) hO100 hO452 hv452 rfl (by decide))).trans px102.1, ((fI_keep (k := 62) hO100 hO452 hv452 rfl (by decide))).trans px102.2⟩ (px103.un hO100 hO452 hv452 (by decide)) (by omega)
                            · have t478 := t454 c456
                              clear t454 t455
                              refine ur_ldA rfl rfl ?_
                              refine ur_ldI rfl rfl ?_
                              refine ur_ldA rfl rfl ?_
                              obtain ⟨fs479, hc480⟩ := hO452.mod
                              refine ur_get rfl hc480 (mf_35 hO452 hc480) ?_
                              refine ur_ldI rfl rfl ?_
                              refine ur_aldV rfl (hv452.ka (n := 10) hc420 hn422 rfl (by decide) (wid_f (by decide)) (by decide)) hn422 (by omega) (fun x481 hx482 => ?_)
                              obtain rfl : x424 = x481 := Option.some.inj (hx425.symm.trans hx482)
                              refine ur_ldI rfl rfl ?_
                              obtain ⟨f483, p484, t485⟩ := mf_4 hO452 hc480
                              have t486 := fI_of hc480 p484
                              have t487 := fI_keep (k := 4) hO0 hO452 (hu26.tr (hu63.tr (hu100.tr hu452))) rfl (by decide)
                              have t488 := fI_keep (k := 34) hO0 hO452 (hu26.tr (hu63.tr (hu100.tr hu452))) rfl (by decide)
                              refine ur_inl rfl (rcv_of hc480) (Nat.le_of_ble_eq_true rfl) (Nat.le_of_ble_eq_true rfl) (se_X12_seenBy hO452 (hX0.un hO0 hO452 (hu26.tr (hu63.tr (hu100.tr hu452))) (by decide)) _ (by show 0 ≤ a3.toInt ∧ a3.toInt ≤ 11; omega) _ (by show 0 ≤ x424.toInt ∧ x424.toInt ≤ 8; omega) _ (by show 0 ≤ x96.toInt ∧ x96.toInt ≤ 999999; omega) (px103.un hO100 hO452 hv452 (by decide)) (by omega) (pre4.keep (KN.un hO0 (hu26.tr (hu63.tr (hu100.tr hu452))) (by decide) (by decide) (by decide) (by decide) (by decide)) (by decide)) pre5 (fun w489 h492 hr490 hO492 hv492 hp491 => ?_))
                              have hu492 : un [80, 81, 7961, 7962] h452 h492 := hv492.mono (by decide)
                              obtain ⟨x493, rfl, f494⟩ := hr490
                              show uRun _ (uCall Mt _) _ 171 (_, [(.inl x493)], _, _, _)
                              refine ur_push rfl ?_
                              refine ur_if2 rfl (fun c495 => ?_) (fun c495 => ?_)
                              · have t496 := lt_to c495
                                refine ur_ldA rfl rfl ?_
                                refine ur_ldI rfl rfl ?_
                                obtain ⟨fs497, hc498⟩ := hO492.mod
                                obtain ⟨f499, p500⟩ := mf_61 hO492 hc498
                                have t501 := fI_of hc498 p500
                                have t502 := fI_keep (k := 4) hO0 hO492 (hu26.tr (hu63.tr (hu100.tr (hu452.tr hu492)))) rfl (by decide)
                                have t503 := fI_keep (k := 34) hO0 hO492 (hu26.tr (hu63.tr (hu100.tr (hu452.tr hu492)))) rfl (by decide)
                                refine ur_putM (W := [7961]) rfl hO492 hc498 (by decide) rfl (ms_61 (hO492.msh hc498)) (Or.inr (by decide)) (fun h505 hO505 hv505 d504 hc506 => ?_)
                                have hu505 : un [80, 81, 7961, 7962] h492 h505 := hv505.mono (by decide)
                                have t507 := fI_of hc506 (gs_eq p500)
                                refine ur_ldA rfl rfl ?_
                                refine ur_ldA rfl rfl ?_
                                refine ur_get rfl hc506 (mf_35 hO505 hc506) ?_
                                refine ur_ldI rfl rfl ?_
                                refine ur_aldV rfl ((d504 _ (by decide)).trans (hv492.ka (n := 10) (hv452.ka (n := 10) hc420 hn422 rfl (by decide) (wid_f (by decide)) (by decide)) hn422 rfl (by decide) (wid_f (by decide)) (by decide))) hn422 (by omega) (fun x508 hx509 => ?_)
                                obtain rfl : x424 = x508 := Option.some.inj (hx425.symm.trans hx509)
                                obtain ⟨f510, p511⟩ := mf_62 hO505 hc506
                                have t512 := fI_of hc506 p511
                                have t513 := fI_keep (k := 4) hO0 hO505 (hu26.tr (hu63.tr (hu100.tr (hu452.tr (hu492.tr hu505))))) rfl (by decide)
                                have t514 := fI_keep (k := 34) hO0 hO505 (hu26.tr (hu63.tr (hu100.tr (hu452.tr (hu492.tr hu505))))) rfl (by decide)
                                refine ur_putM (W := [7962]) rfl hO505 hc506 (by decide) rfl (ms_62 (hO505.msh hc506)) (Or.inr (by decide)) (fun h516 hO516 hv516 d515 hc517 => ?_)
                                have hu516 : un [80, 81, 7961, 7962] h505 h516 := hv516.mono (by decide)
                                have t518 := fI_of hc517 (gs_ne (gs_eq p500) (by decide))
                                have t519 := fI_of hc517 (gs_eq p511)
                                refine ur_go rfl ?_
                                refine ur_incV (fun z => [some (.inr (.inr (some 69))), some (.inl a1), some (.inl a2), some (.inl a3), some (.inl z), some (.inl x64), some (.inl x70), some (.inl x92), some (.inl x96)]) rfl rfl (fun _ => rfl) (fun x520 e521 => ?_)
                                have z522 := any_r x18
                                have t523 := ti_add e521 (by omega) (by omega)
                                refine ur_go rfl ?_
                                obtain ⟨f524, p525, t526⟩ := mf_4 hO516 hc517
                                have t527 := fI_of hc517 p525
                                obtain ⟨f528, p529, t530⟩ := mf_34 hO516 hc517
                                have t531 := fI_of hc517 p529
                                have z532 := any_r x520
                                have nc533 := NCd_s (h := h516)
                                exact ih25 x520 _ _ _ _ _ hO516 (hu26.tr (hu63.tr (hu100.tr (hu452.tr (hu492.tr (hu505.tr hu516)))))) (by omega) (px27.sr (p := (gI h0 93 a1.toInt)) (lo := x70.toInt) (hi := x92.toInt) (s := x96.toInt) (E := fun d => canP ls (gI h0 74 a2.toInt) (gI h0 76 a2.toInt) (gI h0 75 a2.toInt) (gI h0 77 a2.toInt) (gI h0 93 a1.toInt) x64.toInt d ∧ (LRq (-60) 61 (fun j t => retV (NMh h0 (gI h0 73 a3.toInt)) (gI h0 73 a3.toInt) (gI h0 72 a3.toInt) j t) (fun t => canP ls (gI h0 74 a3.toInt) (gI h0 76 a3.toInt) (gI h0 75 a3.toInt) (gI h0 77 a3.toInt) (gI h0 93 a1.toInt) t d))) (by omega) (by omega) px101 (by omega) (fun c => (LOD.s r66 (fun t' r => retV_f r66 r (by omega)) (by omega) (by omega) (by omega)).trans (or_congr Iff.rfl (CWd.e (p := (gI h0 93 a1.toInt)) (t := x64.toInt) rfl (by omega) (by omega) (fun q d h => h.1.1)))) (Or.inr ⟨by omega, by omega, ⟨(by have q := t478; rw [gI_keep (a := 74) (kd := 0) (n := 12) hO0 (hu26.tr (hu63.tr hu100)) a2.toInt (by decide) rfl (by decide) rfl (by decide) (by decide), gI_keep (a := 76) (kd := 0) (n := 12) hO0 (hu26.tr (hu63.tr hu100)) a2.toInt (by decide) rfl (by decide) rfl (by decide) (by decide), gI_keep (a := 75) (kd := 0) (n := 12) hO0 (hu26.tr (hu63.tr hu100)) a2.toInt (by decide) rfl (by decide) rfl (by decide) (by decide), gI_keep (a := 77) (kd := 0) (n := 12) hO0 (hu26.tr (hu63.tr hu100)) a2.toInt (by decide) rfl (by decide) rfl (by decide) (by decide), show x424.toInt = gI h0 93 a1.toInt by omega] at q; exact q), LRf.n (by have q := f494.1; rw [gI_keep (a := 73) (kd := 0) (n := 12) hO0 (hu26.tr (hu63.tr (hu100.tr hu452))) a3.toInt (by decide) rfl (by decide) rfl (by decide) (by decide), gI_keep (a := 72) (kd := 0) (n := 12) hO0 (hu26.tr (hu63.tr (hu100.tr hu452))) a3.toInt (by decide) rfl (by decide) rfl (by decide) (by decide), show NMh h452 (gI h0 73 a3.toInt) = NMh h0 (gI h0 73 a3.toInt) from nxM_un hO0 hO452 (hu26.tr (hu63.tr (hu100.tr hu452))) (by decide) (by decide) (by decide) _, gI_keep (a := 74) (kd := 0) (n := 12) hO0 (hu26.tr (hu63.tr (hu100.tr hu452))) a3.toInt (by decide) rfl (by decide) rfl (by decide) (by decide), gI_keep (a := 76) (kd := 0) (n := 12) hO0 (hu26.tr (hu63.tr (hu100.tr hu452))) a3.toInt (by decide) rfl (by decide) rfl (by decide) (by decide), gI_keep (a := 75) (kd := 0) (n := 12) hO0 (hu26.tr (hu63.tr (hu100.tr hu452))) a3.toInt (by decide) rfl (by decide) rfl (by decide) (by decide), gI_keep (a := 77) (kd := 0) (n := 12) hO0 (hu26.tr (hu63.tr (hu100.tr hu452))) a3.toInt (by decide) rfl (by decide) rfl (by decide) (by decide), show x424.toInt = gI h0 93 a1.toInt by omega] at q; exact q) (by omega)⟩, by omega⟩)) ⟨fun q => by omega, fun q => by omega⟩ ((hp491.un hO492 hO505 hv505 (by decide)).un hO505 hO516 hv516 (by decide)) (by omega)
                              · have t534 := lt_no c495
                                refine ur_go rfl ?_
                                refine ur_incV (fun z => [some (.inr (.inr (some 69))), some (.inl a1), some (.inl a2), some (.inl a3), some (.inl x18), some (.inl x64), some (.inl x70), some (.inl x92), some (.inl z)]) rfl rfl (fun _ => rfl) (fun x535 e536 => ?_)
                                have t537 := ti_add e536 (by omega) (by omega)
                                refine ur_go rfl ?_
                                obtain ⟨fs538, hc539⟩ := hO492.mod
                                obtain ⟨f540, p541, t542⟩ := mf_4 hO492 hc539
                                have t543 := fI_of hc539 p541
                                obtain ⟨f544, p545, t546⟩ := mf_34 hO492 hc539
                                have t547 := fI_of hc539 p545
                                obtain ⟨f548, p549⟩ := mf_61 hO492 hc539
                                have t550 := fI_of hc539 p549
                                obtain ⟨f551, p552⟩ := mf_62 hO492 hc539
                                have t553 := fI_of hc539 p552
                                have z554 := any_r x535
                                exact ih99 x535 _ hO492 (hu100.tr (hu452.tr hu492)) (by omega) (px101.s (fun q => (LRf.y (R := (fun j t => retV (NMh h0 (gI h0 73 a3.toInt)) (gI h0 73 a3.toInt) (gI h0 72 a3.toInt) j t)) (P := (fun t => canP ls (gI h0 74 a3.toInt) (gI h0 76 a3.toInt) (gI h0 75 a3.toInt) (gI h0 77 a3.toInt) (gI h0 93 a1.toInt) t x96.toInt)) (x := x493.toInt) (by have q := f494.1; rw [gI_keep (a := 73) (kd := 0) (n := 12) hO0 (hu26.tr (hu63.tr (hu100.tr hu452))) a3.toInt (by decide) rfl (by decide) rfl (by decide) (by decide), gI_keep (a := 72) (kd := 0) (n := 12) hO0 (hu26.tr (hu63.tr (hu100.tr hu452))) a3.toInt (by decide) rfl (by decide) rfl (by decide) (by decide), show NMh h452 (gI h0 73 a3.toInt) = NMh h0 (gI h0 73 a3.toInt) from nxM_un hO0 hO452 (hu26.tr (hu63.tr (hu100.tr hu452))) (by decide) (by decide) (by decide) _, gI_keep (a := 74) (kd := 0) (n := 12) hO0 (hu26.tr (hu63.tr (hu100.tr hu452))) a3.toInt (by decide) rfl (by decide) rfl (by decide) (by decide), gI_keep (a := 76) (kd := 0) (n := 12) hO0 (hu26.tr (hu63.tr (hu100.tr hu452))) a3.toInt (by decide) rfl (by decide) rfl (by decide) (by decide), gI_keep (a := 75) (kd := 0) (n := 12) hO0 (hu26.tr (hu63.tr (hu100.tr hu452))) a3.toInt (by decide) rfl (by decide) rfl (by decide) (by decide), gI_keep (a := 77) (kd := 0) (n := 12) hO0 (hu26.tr (hu63.tr (hu100.tr hu452))) a3.toInt (by decide) rfl (by decide) rfl (by decide) (by decide), show x424.toInt = gI h0 93 a1.toInt by omega] at q; exact q) (by omega) (fun j t t' j0 j1 r r' => retV_f r r' ⟨j0, j1⟩)) q.2) (by omega)) ⟨(((fI_keep (k := 61) hO452 hO492 hv492 rfl (by decide)).trans (fI_keep (k := 61) hO100 hO452 hv452 rfl (by decide)))).trans px102.1, (((fI_keep (k := 62) hO452 hO492 hv492 rfl (by decide)).trans (fI_keep (k := 62) hO100 hO452 hv452 rfl (by decide)))).trans px102.2⟩ hp491 (by omega)
                          · have t555 := lt_no c430
                            refine ur_go rfl ?_
                            refine ur_incV (fun z => [some (.inr (.inr (some 69))), some (.inl a1), some (.inl a2), some (.inl a3), some (.inl z), some (.inl x64), some (.inl x70), some (.inl x92), some (.inl x96)]) rfl rfl (fun _ => rfl) (fun x556 e557 => ?_)
                            have z558 := any_r x18
                            have t559 := ti_add e557 (by omega) (by omega)
                            refine ur_go rfl ?_
                            obtain ⟨f560, p561, t562⟩ := mf_4 hO100 hc107
                            have t563 := fI_of hc107 p561
                            obtain ⟨f564, p565, t566⟩ := mf_34 hO100 hc107
                            have t567 := fI_of hc107 p565
                            have z568 := any_r x556
                            have nc569 := NCd_s (h := h100)
                            have tt570 : fI h100 61 = fI h100 61 := rfl
                            have tt571 : fI h100 62 = fI h100 62 := rfl
                            exact ih25 x556 _ _ _ _ _ hO100 (hu26.tr (hu63.tr hu100)) (by omega) (px27.sr (p := (gI h0 93 a1.toInt)) (lo := x70.toInt) (hi := x92.toInt) (s := x96.toInt) (E := fun d => canP ls (gI h0 74 a2.toInt) (gI h0 76 a2.toInt) (gI h0 75 a2.toInt) (gI h0 77 a2.toInt) (gI h0 93 a1.toInt) x64.toInt d ∧ (LRq (-60) 61 (fun j t => retV (NMh h0 (gI h0 73 a3.toInt)) (gI h0 73 a3.toInt) (gI h0 72 a3.toInt) j t) (fun t => canP ls (gI h0 74 a3.toInt) (gI h0 76 a3.toInt) (gI h0 75 a3.toInt) (gI h0 77 a3.toInt) (gI h0 93 a1.toInt) t d))) (by omega) (by omega) px101 (by omega) (fun c => (LOD.s r66 (fun t' r => retV_f r66 r (by omega)) (by omega) (by omega) (by omega)).trans (or_congr Iff.rfl (CWd.e (p := (gI h0 93 a1.toInt)) (t := x64.toInt) rfl (by omega) (by omega) (fun q d h => h.1.1)))) (Or.inl ⟨by omega, by omega⟩)) ⟨fun q => by omega, fun q => by omega⟩ px103 (by omega)
              exact L97 _ x70 _ hO63 un.rf (by omega) (LKq.z (by omega)) ⟨rfl, rfl⟩ hp62 (Nat.lt_succ_self _)
            refine ur_ldA rfl rfl ?_
            refine ur_get rfl hc72 (mf_37 hO63 hc72) ?_
            refine ur_ldI rfl rfl ?_
            obtain ⟨xs573, hc572, hn574, he575⟩ := hO63.int (hO63.fix 95 (by decide) rfl)
            refine ur_aldV rfl hc572 hn574 (by omega) (fun x576 hx577 => ?_)
            have t578 := gI_of (j := a1) hc572 hx577
            have t579 := gI_keep (a := 95) (kd := 0) (n := 10) hO0 (hu26.tr hu63) (a1 : Int32).toInt (by decide) rfl (by decide) rfl (by decide) (by decide)
            have t580 : 0 ≤ x576.toInt ∧ x576.toInt ≤ 999999 := he575 _ _ hx577
            refine ur_ldI rfl rfl ?_
            refine ur_push rfl ?_
            refine ur_binV rfl (fun x581 e582 => ?_)
            have z583 := any_r x64
            have t584 := ti_add e582 (by omega) (by omega)
            have z585 := any_r x576
            have z586 := any_r x581
            refine ur_if2 rfl (fun c587 => ?_) (fun c587 => ?_)
            · have t588 := le_to c587
              refine ur_ldA rfl rfl ?_
              refine ur_get rfl hc72 (mf_37 hO63 hc72) ?_
              refine ur_ldI rfl rfl ?_
              refine ur_aldV rfl hc572 hn574 (by omega) (fun x589 hx590 => ?_)
              obtain rfl : x576 = x589 := Option.some.inj (hx577.symm.trans hx590)
              exact J91 x576 (by omega) (by omega)
            · have t591 := le_no c587
              refine ur_ldI rfl rfl ?_
              refine ur_push rfl ?_
              refine ur_binV rfl (fun x592 e593 => ?_)
              have t594 := ti_add e593 (by omega) (by omega)
              refine ur_go rfl ?_
              have z595 := any_r x592
              exact J91 x592 (by omega) (by omega)
          refine ur_ldA rfl rfl ?_
          refine ur_get rfl hc72 (mf_36 hO63 hc72) ?_
          refine ur_ldI rfl rfl ?_
          obtain ⟨xs597, hc596, hn598, he599⟩ := hO63.int (hO63.fix 94 (by decide) rfl)
          refine ur_aldV rfl hc596 hn598 (by omega) (fun x600 hx601 => ?_)
          have t602 := gI_of (j := a1) hc596 hx601
          have t603 := gI_keep (a := 94) (kd := 0) (n := 10) hO0 (hu26.tr hu63) (a1 : Int32).toInt (by decide) rfl (by decide) rfl (by decide) (by decide)
          refine ur_ldI rfl rfl ?_
          refine ur_push rfl ?_
          refine ur_binV rfl (fun x604 e605 => ?_)
          have z606 := any_r x64
          have t607 := ti_sub e605 (by omega) (by omega)
          have z608 := any_r x600
          have z609 := any_r x604
          refine ur_if2 rfl (fun c610 => ?_) (fun c610 => ?_)
          · have t611 := le_to c610
            refine ur_ldA rfl rfl ?_
            refine ur_get rfl hc72 (mf_36 hO63 hc72) ?_
            refine ur_ldI rfl rfl ?_
            refine ur_aldV rfl hc596 hn598 (by omega) (fun x612 hx613 => ?_)
            obtain rfl : x600 = x612 := Option.some.inj (hx601.symm.trans hx613)
            exact J69 x600 (by omega) (by omega)
          · have t614 := le_no c610
            refine ur_ldI rfl rfl ?_
            refine ur_push rfl ?_
            refine ur_binV rfl (fun x615 e616 => ?_)
            have t617 := ti_sub e616 (by omega) (by omega)
            refine ur_go rfl ?_
            have z618 := any_r x615
            exact J69 x615 (by omega) (by omega)
        · have t619 := le_no c67
          refine ur_go rfl ?_
          refine ur_incV (fun z => [some (.inr (.inr (some 69))), some (.inl a1), some (.inl a2), some (.inl a3), some (.inl z), some (.inl x64), u20, u21, u22]) rfl rfl (fun _ => rfl) (fun x620 e621 => ?_)
          have z622 := any_r x18
          have t623 := ti_add e621 (by omega) (by omega)
          refine ur_go rfl ?_
          obtain ⟨fs624, hc625⟩ := hO63.mod
          obtain ⟨f626, p627, t628⟩ := mf_4 hO63 hc625
          have t629 := fI_of hc625 p627
          obtain ⟨f630, p631, t632⟩ := mf_34 hO63 hc625
          have t633 := fI_of hc625 p631
          obtain ⟨f634, p635⟩ := mf_61 hO63 hc625
          have t636 := fI_of hc625 p635
          obtain ⟨f637, p638⟩ := mf_62 hO63 hc625
          have t639 := fI_of hc625 p638
          have z640 := any_r x620
          have nc641 := NCd_s (h := h63)
          have tt642 : fI h63 61 = fI h26 61 := (fI_keep (k := 61) hO26 hO63 hv63 rfl (by decide))
          have tt643 : fI h63 62 = fI h26 62 := (fI_keep (k := 62) hO26 hO63 hv63 rfl (by decide))
          exact ih25 x620 _ _ _ _ _ hO63 (hu26.tr hu63) (by omega) (by rw [NCd_e (fI_keep (k := 61) hO26 hO63 hv63 rfl (by decide)) (fI_keep (k := 62) hO26 hO63 hv63 rfl (by decide))]; exact px27.c (fun c => LOD.n (fun t' r => retV_f r66 r (by omega)) (by omega) (by omega))) ⟨fun q => by omega, fun q => by omega⟩ hp62 (by omega)
  exact L23 _ (-60) (none) (none) (none) (none) _ hO0 un.rf (by omega) (pre6.c (fun c => LOD.z (by omega))) pre7 pre0 (Nat.lt_succ_self _)

set_option maxRecDepth 20000 in
set_option maxHeartbeats 4000000 in
theorem se_X12_next {d kc ks : Nat} {h0 : aH} {Q : Option aV → aH → Prop} {ls : List (List (Int × Int) × List (Int × Int))} (hO0 : OK h0) (hX0 : SX h0) (a1 : Int32) (a2 : Int32) (a3 : Int32) (pre0 : SKm h0) (pre1 : RLn h0 0 ls) (pre2 : ∀ l ∈ ls, lnG l) (pre3 : WRm h0) (hQ : ∀ r h', (∃ x : Int32, r = some (.inl x) ∧ ((¬ ((0 ≤ a1.toInt ∧ a1.toInt < fI h0 4) ∧ (0 ≤ a2.toInt ∧ a2.toInt < fI h0 4) ∧ a1.toInt ≠ a2.toInt ∧ (0 ≤ a3.toInt ∧ a3.toInt ≤ 1)) → x.toInt = -1) ∧ (((0 ≤ a1.toInt ∧ a1.toInt < fI h0 4) ∧ (0 ≤ a2.toInt ∧ a2.toInt < fI h0 4) ∧ a1.toInt ≠ a2.toInt ∧ (0 ≤ a3.toInt ∧ a3.toInt ≤ 1)) → ∃ y, MNq (CD2 0 (-60) 61 (fun i k c => ∃ t, (fun j t => retV (NMh h0 (gI h0 73 a1.toInt)) (gI h0 73 a1.toInt) (gI h0 72 a1.toInt) j t) k t ∧ 0 ≤ t ∧ (fun t c => CWd (gI h0 93) (gI h0 94) (gI h0 95) (fun p d => canP ls (gI h0 74 a1.toInt) (gI h0 76 a1.toInt) (gI h0 75 a1.toInt) (gI h0 77 a1.toInt) p t d ∧ (LRq (-60) 61 (fun j t => retV (NMh h0 (gI h0 73 a2.toInt)) (gI h0 73 a2.toInt) (gI h0 72 a2.toInt) j t) (fun t => canP ls (gI h0 74 a2.toInt) (gI h0 76 a2.toInt) (gI h0 75 a2.toInt) (gI h0 77 a2.toInt) p t d))) i c) t c) (fI h0 34) (-60)) y ∧ (y = -1 → x.toInt = -2) ∧ (y ≠ -1 → (a3.toInt = 0 → x.toInt = y / 9) ∧ (a3.toInt = 1 → x.toInt = y % 9))))) → OK h' → un [80, 81, 7961, 7962] h0 h' → (SKm h') → Q r h') : uCall Mt (d + 8) 282 [(.inr (.inr (some 69))), (.inl a1), (.inl a2), (.inl a3)] h0 kc ks Q := by
  have l_m2 : ((-2) : Int32).toInt = -2 := by decide
  have l_m1 : ((-1) : Int32).toInt = -1 := by decide
  have l_0 : ((0) : Int32).toInt = 0 := by decide
  have l_1 : ((1) : Int32).toInt = 1 := by decide
  refine uc_ink [some (.inr (.inr (some 69))), some (.inl a1), some (.inl a2), some (.inl a3), none] mt_282 (Nat.le_of_ble_eq_true rfl) rfl ?_
  obtain ⟨fs1, hc2⟩ := hO0.mod
  obtain ⟨f3, p4, t5⟩ := mf_4 hO0 hc2
  have t6 := fI_of hc2 p4
  obtain ⟨f7, p8, t9⟩ := mf_34 hO0 hc2
  have t10 := fI_of hc2 p8
  obtain ⟨f11, p12⟩ := mf_61 hO0 hc2
  have t13 := fI_of hc2 p12
  obtain ⟨f14, p15⟩ := mf_62 hO0 hc2
  have t16 := fI_of hc2 p15
  refine ur_ldA rfl rfl ?_
  refine ur_ldI rfl rfl ?_
  refine ur_inl rfl (rcv_of hc2) (Nat.le_of_ble_eq_true rfl) (Nat.le_of_ble_eq_true rfl) (sd_X12_isComet hO0 _ (fun w17 hr18 => ?_))
  obtain ⟨b19, rfl, t20, t21⟩ := hr18
  show uRun _ (uCall Mt _) _ 5 (_, [(.inl (bi b19))], _, _, _)
  refine ur_eqB rfl (fun c22 => ?_) (fun c22 => ?_)
  · have t23 := t21 c22
    clear t20 t21
    refine ur_push rfl ?_
    exact ur_ret rfl rfl (hQ _ _ ⟨_, rfl, ⟨fun _ => by omega, fun q => by exfalso; omega⟩⟩ hO0 un.rf pre0)
  · have t24 := t20 c22
    clear t20 t21
    refine ur_ldA rfl rfl ?_
    refine ur_ldI rfl rfl ?_
    refine ur_inl rfl (rcv_of hc2) (Nat.le_of_ble_eq_true rfl) (Nat.le_of_ble_eq_true rfl) (sd_X12_isComet hO0 _ (fun w25 hr26 => ?_))
    obtain ⟨b27, rfl, t28, t29⟩ := hr26
    show uRun _ (uCall Mt _) _ 13 (_, [(.inl (bi b27))], _, _, _)
    refine ur_eqB rfl (fun c30 => ?_) (fun c30 => ?_)
    · have t31 := t29 c30
      clear t28 t29
      refine ur_push rfl ?_
      exact ur_ret rfl rfl (hQ _ _ ⟨_, rfl, ⟨fun _ => by omega, fun q => by exfalso; omega⟩⟩ hO0 un.rf pre0)
    · have t32 := t28 c30
      clear t28 t29
      refine ur_ldI rfl rfl ?_
      refine ur_ldI rfl rfl ?_
      have z33 := any_r a1
      have z34 := any_r a2
      refine ur_if2 rfl (fun c35 => ?_) (fun c35 => ?_)
      · have t36 := eq_to c35
        refine ur_push rfl ?_
        exact ur_ret rfl rfl (hQ _ _ ⟨_, rfl, ⟨fun _ => by omega, fun q => by exfalso; omega⟩⟩ hO0 un.rf pre0)
      · have t37 := eq_no c35
        refine ur_ldI rfl rfl ?_
        refine ur_push rfl ?_
        refine ur_push rfl ?_
        refine ur_callv rfl rfl (Nat.le_of_ble_eq_true rfl) (Nat.le_of_ble_eq_true rfl) rfl (sp_in _ _ _ _ _) ?_
        refine ur_neB rfl (fun c40 => ?_) (fun c40 => ?_)
        · have t41 := wi_toL c40 l_0 l_1
          refine ur_ldA rfl rfl ?_
          refine ur_push rfl ?_
          refine ur_putM (W := [7961]) rfl hO0 hc2 (by decide) rfl (ms_61 (hO0.msh hc2)) (Or.inr (by decide)) (fun h43 hO43 hv43 d42 hc44 => ?_)
          have hu43 : un [80, 81, 7961, 7962] h0 h43 := hv43.mono (by decide)
          have t45 := fI_of hc44 (gs_ne p4 (by decide))
          have t46 := fI_of hc44 (gs_ne p8 (by decide))
          have t47 := fI_of hc44 (gs_eq p12)
          have t48 := fI_of hc44 (gs_ne p15 (by decide))
          refine ur_ldA rfl rfl ?_
          refine ur_push rfl ?_
          refine ur_putM (W := [7962]) rfl hO43 hc44 (by decide) rfl (ms_62 (hO43.msh hc44)) (Or.inr (by decide)) (fun h50 hO50 hv50 d49 hc51 => ?_)
          have hu50 : un [80, 81, 7961, 7962] h43 h50 := hv50.mono (by decide)
          have t52 := fI_of hc51 (gs_ne (gs_ne p4 (by decide)) (by decide))
          have t53 := fI_of hc51 (gs_ne (gs_ne p8 (by decide)) (by decide))
          have t54 := fI_of hc51 (gs_ne (gs_eq p12) (by decide))
          have t55 := fI_of hc51 (gs_eq (gs_ne p15 (by decide)))
          refine ur_push rfl ?_
          refine ur_svIk [some (.inr (.inr (some 69))), some (.inl a1), some (.inl a2), some (.inl a3), some (.inl 0)] rfl rfl ?_
          have L57 : ∀ (m58 : Nat) (x56 : Int32) (h60 : aH) , OK h60 → un [80, 81, 7961, 7962] h50 h60 → ((0 ≤ x56.toInt ∧ x56.toInt ≤ 10) ∧ x56.toInt ≤ fI h0 34) → (MNq (CD2 0 (-60) 61 (fun i k c => ∃ t, (fun j t => retV (NMh h0 (gI h0 73 a1.toInt)) (gI h0 73 a1.toInt) (gI h0 72 a1.toInt) j t) k t ∧ 0 ≤ t ∧ (fun t c => CWd (gI h0 93) (gI h0 94) (gI h0 95) (fun p d => canP ls (gI h0 74 a1.toInt) (gI h0 76 a1.toInt) (gI h0 75 a1.toInt) (gI h0 77 a1.toInt) p t d ∧ (LRq (-60) 61 (fun j t => retV (NMh h0 (gI h0 73 a2.toInt)) (gI h0 73 a2.toInt) (gI h0 72 a2.toInt) j t) (fun t => canP ls (gI h0 74 a2.toInt) (gI h0 76 a2.toInt) (gI h0 75 a2.toInt) (gI h0 77 a2.toInt) p t d))) i c) t c) (x56.toInt) (-60)) (NCd h60)) → ((0 ≤ fI h60 61 → (0 ≤ fI h60 62 ∧ fI h60 62 ≤ 8) ∧ fI h60 61 ≤ 999999) ∧ (fI h60 61 < 0 → fI h60 61 = -2 ∧ fI h60 62 = -2)) → (SKm h60) → ((11 - x56.toInt).toNat) < m58 → uRun oX12_next (uCall Mt (d + 7)) Q 47 ([some (.inr (.inr (some 69))), some (.inl a1), some (.inl a2), some (.inl a3), some (.inl x56)], [], h60, kc, ks) := by
            intro m58
            induction m58 with
            | zero => intro x56 h60 hO60 hu60 iv64 px61 px62 px63 mm65; omega
            | succ m58 ih59 =>
              intro x56 h60 hO60 hu60 iv64 px61 px62 px63 mm65
              refine ur_ldI rfl rfl ?_
              refine ur_ldA rfl rfl ?_
              obtain ⟨fs66, hc67⟩ := hO60.mod
              obtain ⟨f68, p69, t70⟩ := mf_34 hO60 hc67
              have t71 := fI_of hc67 p69
              have t72 := fI_keep (k := 4) hO0 hO60 (hu43.tr (hu50.tr hu60)) rfl (by decide)
              have t73 := fI_keep (k := 34) hO0 hO60 (hu43.tr (hu50.tr hu60)) rfl (by decide)
              refine ur_get rfl hc67 p69 ?_
              have z74 := any_r x56
              have z75 := any_r f68
              refine ur_if2 rfl (fun c76 => ?_) (fun c76 => ?_)
              · have t77 := le_to c76
                obtain ⟨f78, p79⟩ := mf_61 hO60 hc67
                have t80 := fI_of hc67 p79
                obtain ⟨f81, p82⟩ := mf_62 hO60 hc67
                have t83 := fI_of hc67 p82
                have nc84 := NCd_s (h := h60)
                have tt85 := px62
                refine ur_ldI rfl rfl ?_
                refine ur_if1 rfl (fun c86 => ?_) (fun c86 => ?_)
                · have t87 := ne_to c86
                  refine ur_ldA rfl rfl ?_
                  refine ur_get rfl hc67 p82 ?_
                  obtain ⟨f88, p89, t90⟩ := mf_4 hO60 hc67
                  have t91 := fI_of hc67 p89
                  exact ur_ret rfl rfl (hQ _ _ ⟨_, rfl, ⟨fun q => absurd (by omega) q, fun _ => ⟨NCd h60, (by have q := px61; rw [show x56.toInt = fI h0 34 by omega] at q; exact q), fun _ => by omega, fun _ => ⟨fun _ => by omega, fun _ => by omega⟩⟩⟩⟩ hO60 (hu43.tr (hu50.tr hu60)) px63)
                · have t92 := ne_no c86
                  refine ur_ldA rfl rfl ?_
                  refine ur_get rfl hc67 p79 ?_
                  refine ur_go rfl ?_
                  obtain ⟨f93, p94, t95⟩ := mf_4 hO60 hc67
                  have t96 := fI_of hc67 p94
                  exact ur_ret rfl rfl (hQ _ _ ⟨_, rfl, ⟨fun q => absurd (by omega) q, fun _ => ⟨NCd h60, (by have q := px61; rw [show x56.toInt = fI h0 34 by omega] at q; exact q), fun _ => by omega, fun _ => ⟨fun _ => by omega, fun _ => by omega⟩⟩⟩⟩ hO60 (hu43.tr (hu50.tr hu60)) px63)
              · have t97 := le_no c76
                refine ur_ldA rfl rfl ?_
                refine ur_ldI rfl rfl ?_
                refine ur_ldI rfl rfl ?_
                refine ur_ldI rfl rfl ?_
                obtain ⟨f98, p99, t100⟩ := mf_4 hO60 hc67
                have t101 := fI_of hc67 p99
                obtain ⟨f102, p103⟩ := mf_61 hO60 hc67
                have t104 := fI_of hc67 p103
                obtain ⟨f105, p106⟩ := mf_62 hO60 hc67
                have t107 := fI_of hc67 p106
                refine ur_inl rfl (rcv_of hc67) (Nat.le_of_ble_eq_true rfl) (Nat.le_of_ble_eq_true rfl) (se_X12_lookOut hO60 (hX0.un hO0 hO60 (hu43.tr (hu50.tr hu60)) (by decide)) _ (by show 0 ≤ x56.toInt ∧ x56.toInt ≤ 9; omega) _ (by show 0 ≤ a1.toInt ∧ a1.toInt ≤ 11; omega) _ (by show 0 ≤ a2.toInt ∧ a2.toInt ≤ 11; omega) px63 (by omega) (by omega) (by omega) (pre1.keep (KN.un hO0 (hu43.tr (hu50.tr hu60)) (by decide) (by decide) (by decide) (by decide) (by decide)) (by decide)) pre2 px61 px62 (pre3.un hO0 hO60 (hu43.tr (hu50.tr hu60)) (by decide)) (fun w108 h113 hr109 hO113 hv113 hp110 hp111 hp112 => ?_))
                have hu113 := hv113
                subst hr109
                show uRun _ (uCall Mt _) _ 64 (_, [], _, _, _)
                refine ur_incV (fun z => [some (.inr (.inr (some 69))), some (.inl a1), some (.inl a2), some (.inl a3), some (.inl z)]) rfl rfl (fun _ => rfl) (fun x114 e115 => ?_)
                have t116 := ti_add e115 (by omega) (by omega)
                refine ur_go rfl ?_
                obtain ⟨fs117, hc118⟩ := hO113.mod
                obtain ⟨f119, p120, t121⟩ := mf_4 hO113 hc118
                have t122 := fI_of hc118 p120
                obtain ⟨f123, p124, t125⟩ := mf_34 hO113 hc118
                have t126 := fI_of hc118 p124
                obtain ⟨f127, p128⟩ := mf_61 hO113 hc118
                have t129 := fI_of hc118 p128
                obtain ⟨f130, p131⟩ := mf_62 hO113 hc118
                have t132 := fI_of hc118 p131
                have z133 := any_r x114
                exact ih59 x114 _ hO113 (hu60.tr hu113) (by omega) ((by have q := hp111; rw [gI_keep (a := 73) (kd := 0) (n := 12) hO0 (hu43.tr (hu50.tr hu60)) a1.toInt (by decide) rfl (by decide) rfl (by decide) (by decide), gI_keep (a := 72) (kd := 0) (n := 12) hO0 (hu43.tr (hu50.tr hu60)) a1.toInt (by decide) rfl (by decide) rfl (by decide) (by decide), gI_keep (a := 74) (kd := 0) (n := 12) hO0 (hu43.tr (hu50.tr hu60)) a1.toInt (by decide) rfl (by decide) rfl (by decide) (by decide), gI_keep (a := 76) (kd := 0) (n := 12) hO0 (hu43.tr (hu50.tr hu60)) a1.toInt (by decide) rfl (by decide) rfl (by decide) (by decide), gI_keep (a := 75) (kd := 0) (n := 12) hO0 (hu43.tr (hu50.tr hu60)) a1.toInt (by decide) rfl (by decide) rfl (by decide) (by decide), gI_keep (a := 77) (kd := 0) (n := 12) hO0 (hu43.tr (hu50.tr hu60)) a1.toInt (by decide) rfl (by decide) rfl (by decide) (by decide), gI_keep (a := 73) (kd := 0) (n := 12) hO0 (hu43.tr (hu50.tr hu60)) a2.toInt (by decide) rfl (by decide) rfl (by decide) (by decide), gI_keep (a := 72) (kd := 0) (n := 12) hO0 (hu43.tr (hu50.tr hu60)) a2.toInt (by decide) rfl (by decide) rfl (by decide) (by decide), gI_keep (a := 74) (kd := 0) (n := 12) hO0 (hu43.tr (hu50.tr hu60)) a2.toInt (by decide) rfl (by decide) rfl (by decide) (by decide), gI_keep (a := 76) (kd := 0) (n := 12) hO0 (hu43.tr (hu50.tr hu60)) a2.toInt (by decide) rfl (by decide) rfl (by decide) (by decide), gI_keep (a := 75) (kd := 0) (n := 12) hO0 (hu43.tr (hu50.tr hu60)) a2.toInt (by decide) rfl (by decide) rfl (by decide) (by decide), gI_keep (a := 77) (kd := 0) (n := 12) hO0 (hu43.tr (hu50.tr hu60)) a2.toInt (by decide) rfl (by decide) rfl (by decide) (by decide), show NMh h60 (gI h0 73 a1.toInt) = NMh h0 (gI h0 73 a1.toInt) from nxM_un hO0 hO60 (hu43.tr (hu50.tr hu60)) (by decide) (by decide) (by decide) _, show NMh h60 (gI h0 73 a2.toInt) = NMh h0 (gI h0 73 a2.toInt) from nxM_un hO0 hO60 (hu43.tr (hu50.tr hu60)) (by decide) (by decide) (by decide) _, show gI h60 93 = gI h0 93 from gI_f9 hO0 (hu43.tr (hu50.tr hu60)) (by decide) rfl (by decide), show gI h60 94 = gI h0 94 from gI_f9 hO0 (hu43.tr (hu50.tr hu60)) (by decide) rfl (by decide), show gI h60 95 = gI h0 95 from gI_f9 hO0 (hu43.tr (hu50.tr hu60)) (by decide) rfl (by decide)] at q; exact q : MNq (LOD (CD2 0 (-60) 61 (fun i k c => ∃ t, (fun j t => retV (NMh h0 (gI h0 73 a1.toInt)) (gI h0 73 a1.toInt) (gI h0 72 a1.toInt) j t) k t ∧ 0 ≤ t ∧ (fun t c => CWd (gI h0 93) (gI h0 94) (gI h0 95) (fun p d => canP ls (gI h0 74 a1.toInt) (gI h0 76 a1.toInt) (gI h0 75 a1.toInt) (gI h0 77 a1.toInt) p t d ∧ (LRq (-60) 61 (fun j t => retV (NMh h0 (gI h0 73 a2.toInt)) (gI h0 73 a2.toInt) (gI h0 72 a2.toInt) j t) (fun t => canP ls (gI h0 74 a2.toInt) (gI h0 76 a2.toInt) (gI h0 75 a2.toInt) (gI h0 77 a2.toInt) p t d))) i c) t c) (x56.toInt) (-60)) (fun j t => retV (NMh h0 (gI h0 73 a1.toInt)) (gI h0 73 a1.toInt) (gI h0 72 a1.toInt) j t) ((fun t c => CWd (gI h0 93) (gI h0 94) (gI h0 95) (fun p d => canP ls (gI h0 74 a1.toInt) (gI h0 76 a1.toInt) (gI h0 75 a1.toInt) (gI h0 77 a1.toInt) p t d ∧ (LRq (-60) 61 (fun j t => retV (NMh h0 (gI h0 73 a2.toInt)) (gI h0 73 a2.toInt) (gI h0 72 a2.toInt) j t) (fun t => canP ls (gI h0 74 a2.toInt) (gI h0 76 a2.toInt) (gI h0 75 a2.toInt) (gI h0 77 a2.toInt) p t d))) x56.toInt c)) 61) _).c (fun c => LOD.c2 (by omega) (by omega))) hp112 hp110 (by omega)
          have nc134 := NCd_s (h := h50)
          exact L57 _ 0 _ hO50 un.rf (by omega) (MNq.z (by omega) (fun c => CD2.z rfl rfl)) ⟨fun q => by omega, fun q => by omega⟩ ((pre0.un hO0 hO43 hv43 (by decide)).un hO43 hO50 hv50 (by decide)) (Nat.lt_succ_self _)
        · have t135 := wi_noL c40 l_0 l_1
          refine ur_push rfl ?_
          exact ur_ret rfl rfl (hQ _ _ ⟨_, rfl, ⟨fun _ => by omega, fun q => by exfalso; omega⟩⟩ hO0 un.rf pre0)

set_option maxRecDepth 20000 in
set_option maxHeartbeats 4000000 in
theorem se_X7_addWatch {d kc ks : Nat} {h0 : aH} {Q : Option aV → aH → Prop} (hO0 : OK h0) (a1 : Int32) (b1 : 0 ≤ a1.toInt ∧ a1.toInt ≤ 8) (a2 : Int32) (b2 : 0 ≤ a2.toInt ∧ a2.toInt ≤ 999999) (a3 : Int32) (b3 : 0 ≤ a3.toInt ∧ a3.toInt ≤ 999999) (hQ : ∀ r h', (∃ x : Int32, r = some (.inl x) ∧ (10 ≤ fO h0 41 6 ∧ x.toInt = -3 ∧ fO h' 41 6 = fO h0 41 6 ∨ fO h0 41 6 < 10 ∧ x.toInt = fO h0 41 6 + 1 ∧ fO h' 41 6 = fO h0 41 6 + 1)) → OK h' → un [42, 43, 44, 5106] h0 h' → (imG (fO h' 41 6 = fO h0 41 6 + 1) (arI h' 42 = (arI h0 42).set (fO h0 41 6).toNat a1 ∧ arI h' 43 = (arI h0 43).set (fO h0 41 6).toNat a2 ∧ arI h' 44 = (arI h0 44).set (fO h0 41 6).toNat a3) ∧ imG (fO h' 41 6 = fO h0 41 6) (h' = h0)) → Q r h') : uCall Mt (d + 1) 72 [(.inr (.inr (some 41))), (.inl a1), (.inl a2), (.inl a3)] h0 kc ks Q := by
  have l_m3 : ((-3) : Int32).toInt = -3 := by decide
  have l_1 : ((1) : Int32).toInt = 1 := by decide
  have l_10 : ((10) : Int32).toInt = 10 := by decide
  refine uc_ink [some (.inr (.inr (some 41))), some (.inl a1), some (.inl a2), some (.inl a3)] mt_72 (Nat.le_of_ble_eq_true rfl) rfl ?_
  obtain ⟨f2, f3, hc1, k4⟩ := ok_41 hO0
  have t5 := fO_of (k := 6) hc1 rfl
  refine ur_ldA rfl rfl ?_
  refine ur_get rfl hc1 rfl ?_
  refine ur_push rfl ?_
  refine ur_if2 rfl (fun c6 => ?_) (fun c6 => ?_)
  · have t7 := lt_to c6
    refine ur_ldA rfl rfl ?_
    refine ur_get rfl hc1 rfl ?_
    refine ur_ldA rfl rfl ?_
    refine ur_get rfl hc1 rfl ?_
    refine ur_ldI rfl rfl ?_
    obtain ⟨xs9, hc8, hn10, he11⟩ := hO0.int (hO0.fix 42 (by decide) rfl)
    refine ur_astV (W := [42]) (m := 10) rfl hO0 hc8 (by decide) hn10 (by omega) (by show 0 ≤ a1.toInt ∧ a1.toInt ≤ 8; omega) (Or.inr (Or.inr (wid_fix (by decide) (by decide)))) (fun h14 hO14 hv14 d12 hc13 => ?_)
    have hu14 : un [42, 43, 44, 5106] h0 h14 := hv14.mono (by decide)
    have w15 : wI h0 h14 42 ((arI h0 42).set (f2 : Int32).toInt.toNat a1) := ⟨by rw [arI_of hc13, arI_of hc8], d12⟩
    refine ur_ldA rfl rfl ?_
    refine ur_get rfl ((d12 _ (by decide)).trans hc1) rfl ?_
    have t16 := fO_of (k := 6) ((d12 _ (by decide)).trans hc1) rfl
    refine ur_ldA rfl rfl ?_
    refine ur_get rfl ((d12 _ (by decide)).trans hc1) rfl ?_
    refine ur_ldI rfl rfl ?_
    obtain ⟨xs18, hc17, hn19, he20⟩ := hO14.int (hO14.fix 43 (by decide) rfl)
    refine ur_astV (W := [43]) (m := 10) rfl hO14 hc17 (by decide) hn19 (by omega) (by show 0 ≤ a2.toInt ∧ a2.toInt ≤ 999999; omega) (Or.inr (Or.inr (wid_fix (by decide) (by decide)))) (fun h23 hO23 hv23 d21 hc22 => ?_)
    have hu23 : un [42, 43, 44, 5106] h14 h23 := hv23.mono (by decide)
    have w24 : wI h14 h23 43 ((arI h14 43).set (f2 : Int32).toInt.toNat a2) := ⟨by rw [arI_of hc22, arI_of hc17], d21⟩
    refine ur_ldA rfl rfl ?_
    refine ur_get rfl ((d21 _ (by decide)).trans ((d12 _ (by decide)).trans hc1)) rfl ?_
    have t25 := fO_of (k := 6) ((d21 _ (by decide)).trans ((d12 _ (by decide)).trans hc1)) rfl
    refine ur_ldA rfl rfl ?_
    refine ur_get rfl ((d21 _ (by decide)).trans ((d12 _ (by decide)).trans hc1)) rfl ?_
    refine ur_ldI rfl rfl ?_
    obtain ⟨xs27, hc26, hn28, he29⟩ := hO23.int (hO23.fix 44 (by decide) rfl)
    refine ur_astV (W := [44]) (m := 10) rfl hO23 hc26 (by decide) hn28 (by omega) (by show 0 ≤ a3.toInt ∧ a3.toInt ≤ 999999; omega) (Or.inr (Or.inr (wid_fix (by decide) (by decide)))) (fun h32 hO32 hv32 d30 hc31 => ?_)
    have hu32 : un [42, 43, 44, 5106] h23 h32 := hv32.mono (by decide)
    have w33 : wI h23 h32 44 ((arI h23 44).set (f2 : Int32).toInt.toNat a3) := ⟨by rw [arI_of hc31, arI_of hc26], d30⟩
    refine ur_ldA rfl rfl ?_
    refine ur_dup rfl rfl ?_
    refine ur_get rfl ((d30 _ (by decide)).trans ((d21 _ (by decide)).trans ((d12 _ (by decide)).trans hc1))) rfl ?_
    have t34 := fO_of (k := 6) ((d30 _ (by decide)).trans ((d21 _ (by decide)).trans ((d12 _ (by decide)).trans hc1))) rfl
    refine ur_push rfl ?_
    refine ur_binV rfl (fun x35 e36 => ?_)
    have z37 := any_r f2
    have t38 := ti_add e36 (by omega) (by omega)
    refine ur_putV (W := [5106]) (fs' := [(.inr (.inr (some 1))), (.inr (.inr (some 15))), (.inr (.inr (some 8))), (.inr (.inr (some 42))), (.inr (.inr (some 43))), (.inr (.inr (some 44))), (.inl x35), (.inr (.inr (some 45))), (.inr (.inr (some 46))), (.inr (.inr (some 47))), (.inr (.inr (some 48))), (.inr (.inr (some 49))), (.inr (.inr (some 50))), (.inr (.inr (some 51))), (.inl f3)]) rfl hO32 ((d30 _ (by decide)).trans ((d21 _ (by decide)).trans ((d12 _ (by decide)).trans hc1))) (Nat.le_of_ble_eq_true rfl) rfl rfl ⟨rfl, _, _, rfl, by omega⟩ rfl (Or.inr (by show 1000 + 100 * wid 41 (107, 15) + 6 ∈ _; rw [(wid_f (by decide))]; decide)) (fun h40 hO40 hv40 d39 hc41 => ?_)
    have hu40 : un [42, 43, 44, 5106] h32 h40 := hv40.mono (by decide)
    refine ur_ldA rfl rfl ?_
    refine ur_get rfl hc41 rfl ?_
    have t42 := fO_of (k := 6) hc41 rfl
    exact ur_ret rfl rfl (hQ _ _ ⟨_, rfl, Or.inr ⟨by omega, by omega, by omega⟩⟩ hO40 (hu14.tr (hu23.tr (hu32.tr hu40))) ⟨fun _ => ⟨(by rw [(show arI h40 42 = arI h32 42 from arI_c (d39 42 (by decide))), (show arI h32 42 = arI h23 42 from w33.oI (by decide)), (show arI h23 42 = arI h14 42 from w24.oI (by decide)), w15.1, show f2.toInt.toNat = (fO h0 41 6).toNat from congrArg Int.toNat (show f2.toInt = fO h0 41 6 by omega)]), (by rw [(show arI h40 43 = arI h32 43 from arI_c (d39 43 (by decide))), (show arI h32 43 = arI h23 43 from w33.oI (by decide)), w24.1, show f2.toInt.toNat = (fO h0 41 6).toNat from congrArg Int.toNat (show f2.toInt = fO h0 41 6 by omega), (show arI h14 43 = arI h0 43 from w15.oI (by decide))]), (by rw [(show arI h40 44 = arI h32 44 from arI_c (d39 44 (by decide))), w33.1, show f2.toInt.toNat = (fO h0 41 6).toNat from congrArg Int.toNat (show f2.toInt = fO h0 41 6 by omega), (show arI h23 44 = arI h14 44 from w24.oI (by decide)), (show arI h14 44 = arI h0 44 from w15.oI (by decide))])⟩, fun q => by exfalso; omega⟩)
  · have t43 := lt_no c6
    refine ur_push rfl ?_
    exact ur_ret rfl rfl (hQ _ _ ⟨_, rfl, Or.inl ⟨by omega, by omega, by omega⟩⟩ hO0 un.rf ⟨fun q => by exfalso; omega, fun _ => rfl⟩)

set_option maxRecDepth 20000 in
set_option maxHeartbeats 4000000 in
theorem se_X12_watch {d kc ks : Nat} {h0 : aH} {Q : Option aV → aH → Prop} (hO0 : OK h0) (a1 : Int32) (a2 : Int32) (a3 : Int32) (hQ : ∀ r h', (∃ x : Int32, r = some (.inl x) ∧ (¬ ((0 ≤ a1.toInt ∧ a1.toInt ≤ 8) ∧ (0 ≤ a2.toInt ∧ a2.toInt ≤ 999999) ∧ (0 ≤ a3.toInt ∧ a3.toInt ≤ 999999) ∧ a2.toInt ≤ a3.toInt) ∧ x.toInt = -1 ∧ fI h' 34 = fI h0 34 ∨ ((0 ≤ a1.toInt ∧ a1.toInt ≤ 8) ∧ (0 ≤ a2.toInt ∧ a2.toInt ≤ 999999) ∧ (0 ≤ a3.toInt ∧ a3.toInt ≤ 999999) ∧ a2.toInt ≤ a3.toInt) ∧ 10 ≤ fI h0 34 ∧ x.toInt = -3 ∧ fI h' 34 = fI h0 34 ∨ ((0 ≤ a1.toInt ∧ a1.toInt ≤ 8) ∧ (0 ≤ a2.toInt ∧ a2.toInt ≤ 999999) ∧ (0 ≤ a3.toInt ∧ a3.toInt ≤ 999999) ∧ a2.toInt ≤ a3.toInt) ∧ fI h0 34 < 10 ∧ x.toInt = fI h0 34 + 1 ∧ fI h' 34 = fI h0 34 + 1)) → OK h' → un [93, 94, 95, 7934] h0 h' → (imG (fI h' 34 = fI h0 34 + 1) (arI h' 93 = (arI h0 93).set (fI h0 34).toNat a1 ∧ arI h' 94 = (arI h0 94).set (fI h0 34).toNat a2 ∧ arI h' 95 = (arI h0 95).set (fI h0 34).toNat a3) ∧ imG (fI h' 34 = fI h0 34) (h' = h0)) → Q r h') : uCall Mt (d + 3) 232 [(.inr (.inr (some 69))), (.inl a1), (.inl a2), (.inl a3)] h0 kc ks Q := by
  have l_m3 : ((-3) : Int32).toInt = -3 := by decide
  have l_m1 : ((-1) : Int32).toInt = -1 := by decide
  have l_0 : ((0) : Int32).toInt = 0 := by decide
  have l_1 : ((1) : Int32).toInt = 1 := by decide
  have l_8 : ((8) : Int32).toInt = 8 := by decide
  have l_10 : ((10) : Int32).toInt = 10 := by decide
  have l_999999 : ((999999) : Int32).toInt = 999999 := by decide
  refine uc_ink [some (.inr (.inr (some 69))), some (.inl a1), some (.inl a2), some (.inl a3)] mt_232 (Nat.le_of_ble_eq_true rfl) rfl ?_
  obtain ⟨fs1, hc2⟩ := hO0.mod
  obtain ⟨f3, p4, t5⟩ := mf_34 hO0 hc2
  have t6 := fI_of hc2 p4
  refine ur_ldI rfl rfl ?_
  refine ur_callv rfl rfl (Nat.le_of_ble_eq_true rfl) (Nat.le_of_ble_eq_true rfl) rfl (sq_isPpl _ _) ?_
  refine ur_eqB rfl (fun c9 => ?_) (fun c9 => ?_)
  · have t10 := wi_noL c9 l_0 l_8
    refine ur_push rfl ?_
    exact ur_ret rfl rfl (hQ _ _ ⟨_, rfl, Or.inl ⟨by omega, by omega, by omega⟩⟩ hO0 un.rf ⟨fun q => by exfalso; omega, fun _ => rfl⟩)
  · have t11 := wi_toL c9 l_0 l_8
    refine ur_ldI rfl rfl ?_
    refine ur_callv rfl rfl (Nat.le_of_ble_eq_true rfl) (Nat.le_of_ble_eq_true rfl) rfl (sq_isDay _ _) ?_
    refine ur_eqB rfl (fun c14 => ?_) (fun c14 => ?_)
    · have t15 := wi_noL c14 l_0 l_999999
      refine ur_push rfl ?_
      exact ur_ret rfl rfl (hQ _ _ ⟨_, rfl, Or.inl ⟨by omega, by omega, by omega⟩⟩ hO0 un.rf ⟨fun q => by exfalso; omega, fun _ => rfl⟩)
    · have t16 := wi_toL c14 l_0 l_999999
      refine ur_ldI rfl rfl ?_
      refine ur_callv rfl rfl (Nat.le_of_ble_eq_true rfl) (Nat.le_of_ble_eq_true rfl) rfl (sq_isDay _ _) ?_
      refine ur_eqB rfl (fun c19 => ?_) (fun c19 => ?_)
      · have t20 := wi_noL c19 l_0 l_999999
        refine ur_push rfl ?_
        exact ur_ret rfl rfl (hQ _ _ ⟨_, rfl, Or.inl ⟨by omega, by omega, by omega⟩⟩ hO0 un.rf ⟨fun q => by exfalso; omega, fun _ => rfl⟩)
      · have t21 := wi_toL c19 l_0 l_999999
        refine ur_ldI rfl rfl ?_
        refine ur_ldI rfl rfl ?_
        have z22 := any_r a2
        have z23 := any_r a3
        refine ur_if2 rfl (fun c24 => ?_) (fun c24 => ?_)
        · have t25 := le_to c24
          refine ur_ldA rfl rfl ?_
          refine ur_get rfl hc2 p4 ?_
          refine ur_push rfl ?_
          refine ur_if2 rfl (fun c26 => ?_) (fun c26 => ?_)
          · have t27 := ne_to c26
            refine ur_ldA rfl rfl ?_
            refine ur_get rfl hc2 (mf_35 hO0 hc2) ?_
            refine ur_ldA rfl rfl ?_
            refine ur_get rfl hc2 p4 ?_
            refine ur_ldI rfl rfl ?_
            obtain ⟨xs29, hc28, hn30, he31⟩ := hO0.int (hO0.fix 93 (by decide) rfl)
            refine ur_astV (W := [93]) (m := 10) rfl hO0 hc28 (by decide) hn30 (by omega) (any_r _) (Or.inr (Or.inr (wid_fix (by decide) (by decide)))) (fun h34 hO34 hv34 d32 hc33 => ?_)
            have hu34 : un [93, 94, 95, 7934] h0 h34 := hv34.mono (by decide)
            have w35 : wI h0 h34 93 ((arI h0 93).set (f3 : Int32).toInt.toNat a1) := ⟨by rw [arI_of hc33, arI_of hc28], d32⟩
            refine ur_ldA rfl rfl ?_
            refine ur_get rfl ((d32 _ (by decide)).trans hc2) (mf_36 hO34 ((d32 _ (by decide)).trans hc2)) ?_
            refine ur_ldA rfl rfl ?_
            have t36 := fI_of ((d32 _ (by decide)).trans hc2) p4
            refine ur_get rfl ((d32 _ (by decide)).trans hc2) p4 ?_
            refine ur_ldI rfl rfl ?_
            obtain ⟨xs38, hc37, hn39, he40⟩ := hO34.int (hO34.fix 94 (by decide) rfl)
            refine ur_astV (W := [94]) (m := 10) rfl hO34 hc37 (by decide) hn39 (by omega) (any_r _) (Or.inr (Or.inr (wid_fix (by decide) (by decide)))) (fun h43 hO43 hv43 d41 hc42 => ?_)
            have hu43 : un [93, 94, 95, 7934] h34 h43 := hv43.mono (by decide)
            have w44 : wI h34 h43 94 ((arI h34 94).set (f3 : Int32).toInt.toNat a2) := ⟨by rw [arI_of hc42, arI_of hc37], d41⟩
            refine ur_ldA rfl rfl ?_
            refine ur_get rfl ((d41 _ (by decide)).trans ((d32 _ (by decide)).trans hc2)) (mf_37 hO43 ((d41 _ (by decide)).trans ((d32 _ (by decide)).trans hc2))) ?_
            refine ur_ldA rfl rfl ?_
            have t45 := fI_of ((d41 _ (by decide)).trans ((d32 _ (by decide)).trans hc2)) p4
            refine ur_get rfl ((d41 _ (by decide)).trans ((d32 _ (by decide)).trans hc2)) p4 ?_
            refine ur_ldI rfl rfl ?_
            obtain ⟨xs47, hc46, hn48, he49⟩ := hO43.int (hO43.fix 95 (by decide) rfl)
            refine ur_astV (W := [95]) (m := 10) rfl hO43 hc46 (by decide) hn48 (by omega) (by show 0 ≤ a3.toInt ∧ a3.toInt ≤ 999999; omega) (Or.inr (Or.inr (wid_fix (by decide) (by decide)))) (fun h52 hO52 hv52 d50 hc51 => ?_)
            have hu52 : un [93, 94, 95, 7934] h43 h52 := hv52.mono (by decide)
            have w53 : wI h43 h52 95 ((arI h43 95).set (f3 : Int32).toInt.toNat a3) := ⟨by rw [arI_of hc51, arI_of hc46], d50⟩
            refine ur_ldA rfl rfl ?_
            refine ur_dup rfl rfl ?_
            have hc54 := ((d50 _ (by decide)).trans ((d41 _ (by decide)).trans ((d32 _ (by decide)).trans hc2)))
            have t55 := fI_of hc54 p4
            refine ur_get rfl hc54 p4 ?_
            refine ur_push rfl ?_
            refine ur_binV rfl (fun x56 e57 => ?_)
            have z58 := any_r f3
            have t59 := ti_add e57 (by omega) (by omega)
            refine ur_putM (W := [7934]) rfl hO52 hc54 (by decide) rfl (ms_34 (hO52.msh hc54) (show 0 ≤ x56.toInt ∧ x56.toInt ≤ 10 by omega)) (Or.inr (by decide)) (fun h61 hO61 hv61 d60 hc62 => ?_)
            have hu61 : un [93, 94, 95, 7934] h52 h61 := hv61.mono (by decide)
            have t63 := fI_of hc62 (gs_eq p4)
            refine ur_ldA rfl rfl ?_
            refine ur_get rfl hc62 (gs_eq p4) ?_
            exact ur_ret rfl rfl (hQ _ _ ⟨_, rfl, Or.inr (Or.inr ⟨by omega, by omega, by omega, by omega⟩)⟩ hO61 (hu34.tr (hu43.tr (hu52.tr hu61))) ⟨fun _ => ⟨(by rw [(show arI h61 93 = arI h52 93 from arI_c (d60 93 (by decide))), (show arI h52 93 = arI h43 93 from w53.oI (by decide)), (show arI h43 93 = arI h34 93 from w44.oI (by decide)), w35.1, show f3.toInt.toNat = (fI h0 34).toNat from congrArg Int.toNat (show f3.toInt = fI h0 34 by omega)]), (by rw [(show arI h61 94 = arI h52 94 from arI_c (d60 94 (by decide))), (show arI h52 94 = arI h43 94 from w53.oI (by decide)), w44.1, show f3.toInt.toNat = (fI h0 34).toNat from congrArg Int.toNat (show f3.toInt = fI h0 34 by omega), (show arI h34 94 = arI h0 94 from w35.oI (by decide))]), (by rw [(show arI h61 95 = arI h52 95 from arI_c (d60 95 (by decide))), w53.1, show f3.toInt.toNat = (fI h0 34).toNat from congrArg Int.toNat (show f3.toInt = fI h0 34 by omega), (show arI h43 95 = arI h34 95 from w44.oI (by decide)), (show arI h34 95 = arI h0 95 from w35.oI (by decide))])⟩, fun q => by exfalso; omega⟩)
          · have t64 := ne_no c26
            refine ur_push rfl ?_
            exact ur_ret rfl rfl (hQ _ _ ⟨_, rfl, Or.inr (Or.inl ⟨by omega, by omega, by omega, by omega⟩)⟩ hO0 un.rf ⟨fun q => by exfalso; omega, fun _ => rfl⟩)
        · have t65 := le_no c24
          refine ur_push rfl ?_
          exact ur_ret rfl rfl (hQ _ _ ⟨_, rfl, Or.inl ⟨by omega, by omega, by omega⟩⟩ hO0 un.rf ⟨fun q => by exfalso; omega, fun _ => rfl⟩)
end SGM
