/-! SIGHT: behind; printed by program but for its head -/
section SG6
/-! SIGHT: one ahead, another behind -/
theorem cz_nu {W : List Nat} {h h' : aH} {c : Int} {z : Nat} (hO : OK h) (hO' : OK h') (g : un W h h') (H : (0 ≤ c ∧ c < fO h' 1 4) ∧ cz h' c z) (w : 4 ∉ W) (w2 : 1104 ∉ W) : (0 ≤ c ∧ c < fO h 1 4) ∧ cz h c z := by
  have e : fO h' 1 4 = fO h 1 4 := fO_keep (a := 1) (ci := 6) (n := 5) (k := 4) hO hO' g (by decide) rfl (by decide) rfl w2
  exact ⟨⟨H.1.1, by rw [← e]; exact H.1.2⟩, cz_c (arR_u4 hO g w) H.2⟩
def NBq (i : Int) (A : Int → Prop) : Prop := ∀ c, 0 ≤ c → c < i → A c
theorem NBq.z {i : Int} {A : Int → Prop} (e : i ≤ 0) : NBq i A := fun c c0 c1 => by omega
theorem NBq.s {i i' : Int} {A : Int → Prop} (H : NBq i A) (n : A i) (e : i' = i + 1) : NBq i' A := fun c c0 c1 => by
  by_cases q : c < i
  · exact H c c0 q
  · obtain rfl : c = i := by omega
    exact n
/-- the first hit in the class -/
def BHc (n : Int) (lo hi : Int → Int) (P : Int → Int → Prop) (x : Int) : Prop := (x = -2 ∧ NBq n (fun c => LKq (lo c) (hi c + 1) (P c))) ∨ ∃ c k, (0 ≤ c ∧ c < n) ∧ (lo c ≤ k ∧ k ≤ hi c) ∧ x = 1000 * c + 100 + k ∧ P c k ∧ LKq (lo c) k (P c) ∧ NBq c (fun c => LKq (lo c) (hi c + 1) (P c))
/-- .. and in the reference -/
def BHm (n : Int) (R : Int → Int → Int → Prop) (Q : Int → Int → Prop) (x : Int) : Prop := (x = -2 ∧ NBq n (fun c => LRq (-60) 61 (R c) (Q c))) ∨ ∃ c k, (0 ≤ c ∧ c < n) ∧ (-60 ≤ k ∧ k ≤ 60) ∧ x = 1000 * c + 100 + k ∧ (∃ t, R c k t ∧ 0 ≤ t ∧ Q c t) ∧ LRq (-60) k (R c) (Q c) ∧ NBq c (fun c => LRq (-60) 61 (R c) (Q c))
theorem BHc.eq {n x y : Int} {lo hi : Int → Int} {P : Int → Int → Prop} {R : Int → Int → Int → Prop} {Q : Int → Int → Prop} {cf : Int → Int → Int} (a : BHc n lo hi P x) (b : BHm n R Q y) (hl : ∀ c, 0 ≤ c → c < n → -60 ≤ lo c ∧ hi c ≤ 60) (hR : ∀ c j t, 0 ≤ c → c < n → -60 ≤ j → j ≤ 60 → R c j t → t = cf c j ∧ ((lo c ≤ j ∧ j ≤ hi c) → 0 ≤ t) ∧ (¬ (lo c ≤ j ∧ j ≤ hi c) → t = -1)) (hP : ∀ c j, 0 ≤ c → c < n → lo c ≤ j → j ≤ hi c → (P c j ↔ Q c (cf c j))) : x = y := by
  have h1 : ∀ c k, 0 ≤ c → c < n → lo c ≤ k → k ≤ hi c → P c k → ¬ (∃ t, R c k t ∧ ¬ (0 ≤ t ∧ Q c t)) := fun c k c0 c1 k0 k1 p ⟨t, r, m⟩ => by
    have u := hl c c0 c1
    obtain ⟨e, f, -⟩ := hR c k t c0 c1 (by omega) (by omega) r
    exact m ⟨f ⟨k0, k1⟩, by rw [e]; exact (hP c k c0 c1 k0 k1).mp p⟩
  have h2 : ∀ c k, 0 ≤ c → c < n → -60 ≤ k → k ≤ 60 → (∃ t, R c k t ∧ 0 ≤ t ∧ Q c t) → (lo c ≤ k ∧ k ≤ hi c) ∧ P c k := fun c k c0 c1 k0 k1 ⟨t, r, t0, q⟩ => by
    obtain ⟨e, -, f⟩ := hR c k t c0 c1 k0 k1 r
    have i : lo c ≤ k ∧ k ≤ hi c := Classical.byContradiction fun i => by
      have := f i
      omega
    exact ⟨i, (hP c k c0 c1 i.1 i.2).mpr (by rw [← e]; exact q)⟩
  rcases a with ⟨a1, a2⟩ | ⟨c, k, ci, ki, ex, p, a3, a4⟩
  · rcases b with ⟨b1, -⟩ | ⟨c', k', ci', ki', -, q, -, -⟩
    · omega
    · obtain ⟨i, p⟩ := h2 c' k' ci'.1 ci'.2 ki'.1 ki'.2 q
      exact absurd p (a2 c' ci'.1 ci'.2 k' i.1 (by omega))
  · have u := hl c ci.1 ci.2
    rcases b with ⟨-, b2⟩ | ⟨c', k', ci', ki', ey, q, b3, b4⟩
    · exact absurd (b2 c ci.1 ci.2 k (by omega) (by omega)) (h1 c k ci.1 ci.2 ki.1 ki.2 p)
    · obtain ⟨i, p'⟩ := h2 c' k' ci'.1 ci'.2 ki'.1 ki'.2 q
      rcases (show c < c' ∨ c' < c ∨ c = c' by omega) with o | o | rfl
      · exact absurd (b4 c ci.1 o k (by omega) (by omega)) (h1 c k ci.1 ci.2 ki.1 ki.2 p)
      · exact absurd p' (a4 c' ci'.1 o k' i.1 (by omega))
      · rcases (show k < k' ∨ k' < k ∨ k = k' by omega) with o | o | rfl
        · exact absurd (b3 k (by omega) o) (h1 c k ci.1 ci.2 ki.1 ki.2 p)
        · exact absurd p' (a3 k' i.1 o)
        · omega
def GBz (ls l1 : List (List (Int × Int) × List (Int × Int))) (h : aH) (w o z : Nat) (t : Int) : Prop := (∃ y, FCz ls l1 h w z t (fun d => -120 ≤ d - t ∧ d - t ≤ -1) y ∧ y ≠ -1) ∧ ∃ y, FCz ls l1 h o z t (fun d => 1 ≤ d - t ∧ d - t ≤ 120) y ∧ y ≠ -1
theorem GBz.un {ls l1 : List (List (Int × Int) × List (Int × Int))} {V : List Nat} {h h' : aH} {w o z : Nat} {t : Int} (hO : OK h) (hO' : OK h') (g : un V h h') (tw : 114 ≤ w ∧ tg h w = (110, 13)) (to : 114 ≤ o ∧ tg h o = (110, 13)) (tz : 114 ≤ z ∧ tg h z = (102, 14)) (v : ∀ k ∈ [21202, 21203, 21204, 21205, 22001, 22002, 22004, 22008, 22009, 22010, 22011, 22012], k ∉ V) : GBz ls l1 h' w o z t ↔ GBz ls l1 h w o z t := by
  have k : ∀ (u : Nat) (W : Int → Prop) (y : Int), (114 ≤ u ∧ tg h u = (110, 13)) → (FCz ls l1 h' u z t W y ↔ FCz ls l1 h u z t W y) := fun u W y tu => by
    refine ⟨fun H => H.un hO g tu tz v, fun H => ?_⟩
    have rr := rtz_ok hO tu (rtz_ro hO tu.2)
    unfold FCz at H ⊢
    rw [ro_un hO g tu (v _ (by decide)), fO_wu hO g rr (k := 10) (by decide) (v _ (by decide)), fO_wu hO g rr (k := 4) (by decide) (v _ (by decide)), VC_un hO g rr ⟨v _ (by decide), v _ (by decide)⟩, fO_wu hO g tu (k := 1) (by decide) (v _ (by decide)), fO_wu hO g tu (k := 2) (by decide) (v _ (by decide)), fO_wu hO g tu (k := 8) (by decide) (v _ (by decide)), fO_eA (fC_un hO g tz.1 tz.2 (k := 2) (by decide) (v _ (by decide))), fO_eA (fC_un hO g tz.1 tz.2 (k := 4) (by decide) (v _ (by decide))), fO_eA (fC_un hO g tz.1 tz.2 (k := 3) (by decide) (v _ (by decide))), fO_eA (fC_un hO g tz.1 tz.2 (k := 5) (by decide) (v _ (by decide)))]
    exact H
  unfold GBz
  exact ⟨fun ⟨⟨y, f, n⟩, y', f', n'⟩ => ⟨⟨y, (k w _ y tw).mp f, n⟩, y', (k o _ y' to).mp f', n'⟩, fun ⟨⟨y, f, n⟩, y', f', n'⟩ => ⟨⟨y, (k w _ y tw).mpr f, n⟩, y', (k o _ y' to).mpr f', n'⟩⟩
/-- the one ahead and the other behind, or the other way round -/
def BPz (ls l1 : List (List (Int × Int) × List (Int × Int))) (h : aH) (w o z : Nat) (j : Int) : Prop := GBz ls l1 h w o z (cf h z j) ∨ GBz ls l1 h o w z (cf h z j)
def AHm (ls l1 : List (List (Int × Int) × List (Int × Int))) (h : aH) (M : Nat → List (List (Int × Int) × List (Int × Int))) (w o c t : Int) : Prop := (∃ y, FMz ls l1 h M w c t 0 (fun d => 0 ≤ d) y ∧ 0 ≤ y ∧ y < t) ∧ ∃ y, FMz ls l1 h M o c t 0 (fun d => t + 1 ≤ d) y ∧ 0 ≤ y
theorem AHm.un {ls l1 : List (List (Int × Int) × List (Int × Int))} {V : List Nat} {h h' : aH} {M : Nat → List (List (Int × Int) × List (Int × Int))} {w o c t : Int} (hO : OK h) (g : un V h h') (e : rt h' w = rt h w) (e' : rt h' o = rt h o) (v : ∀ k ∈ [74, 75, 76, 77, 90, 91, 92, 96, 97, 98, 99, 100, 101, 102, 103], k ∉ V) : AHm ls l1 h' M w o c t ↔ AHm ls l1 h M w o c t := by
  have k : ∀ (u : Int) (W : Int → Prop) (y : Int), rt h' u = rt h u → (FMz ls l1 h' M u c t 0 W y ↔ FMz ls l1 h M u c t 0 W y) := fun u W y e => by
    have k : ∀ a n : Nat, a ∈ [74, 75, 76, 77, 90, 91, 92, 96, 97, 98, 99, 100, 101, 102, 103] → a < 114 → T0.getD a (999, 0) = (0, n) → scA a = false → (0, n) ∉ meM → ∀ j, gI h' a j = gI h a j := fun a n h0 h1 h2 h3 h4 j => gI_keep (a := a) (kd := 0) (n := n) hO g j h1 h2 (by decide) h3 h4 (v a h0)
    refine ⟨fun H => H.un hO g e v, fun H => ?_⟩
    unfold FMz at H ⊢
    rw [e, nM_w hO g ⟨v _ (by decide), v _ (by decide)⟩, VM_w hO g (fun q hq => v q (by revert hq; revert q; decide)), k 102 150 (by decide) (by decide) rfl rfl (by decide), k 74 12 (by decide) (by decide) rfl rfl (by decide), k 76 12 (by decide) (by decide) rfl rfl (by decide), k 75 12 (by decide) (by decide) rfl rfl (by decide), k 77 12 (by decide) (by decide) rfl rfl (by decide), k 97 150 (by decide) (by decide) rfl rfl (by decide), k 96 150 (by decide) (by decide) rfl rfl (by decide), k 103 150 (by decide) (by decide) rfl rfl (by decide)]
    exact H
  unfold AHm
  exact ⟨fun ⟨⟨y, f, n⟩, y', f', n'⟩ => ⟨⟨y, (k w _ y e).mp f, n⟩, y', (k o _ y' e').mp f', n'⟩, fun ⟨⟨y, f, n⟩, y', f', n'⟩ => ⟨⟨y, (k w _ y e).mpr f, n⟩, y', (k o _ y' e').mpr f', n'⟩⟩
def BPm (ls l1 : List (List (Int × Int) × List (Int × Int))) (h : aH) (M : Nat → List (List (Int × Int) × List (Int × Int))) (w o c t : Int) : Prop := AHm ls l1 h M w o c t ∨ AHm ls l1 h M o w c t
set_option maxRecDepth 20000 in
set_option maxHeartbeats 4000000 in
theorem sd_X5_goneBehind {d kc ks : Nat} {h0 : aH} {Q : Option aV → aH → Prop} {ls : List (List (Int × Int) × List (Int × Int))} {l1 : List (List (Int × Int) × List (Int × Int))} {c0 : Int} {j0 : Int} {i0 : Int} (hO0 : OK h0) {a1 : Nat} (g1 : 114 ≤ a1) (t1 : tg h0 a1 = (110, 13)) {a2 : Nat} (g2 : 114 ≤ a2) (t2 : tg h0 a2 = (110, 13)) {a3 : Nat} (g3 : 114 ≤ a3) (t3 : tg h0 a3 = (102, 14)) (a4 : Int32) (b4 : -60 ≤ a4.toInt ∧ a4.toInt ≤ 60) (pre0 : SKc h0) (pre1 : SGc ls h0) (pre2 : (0 ≤ c0 ∧ c0 < fO h0 1 4) ∧ cz h0 c0 a3) (pre3 : txC h0 9 = cfl 0 ls) (pre4 : ∀ l ∈ ls, lnG l) (pre5 : txC h0 11 = cfl 0 l1) (pre6 : ∀ l ∈ l1, lnG l) (pre7 : (0 ≤ j0 ∧ j0 < fO h0 15 1) ∧ wz h0 j0 a1) (pre8 : RTW h0) (pre9 : LDw h0) (pre10 : fO h0 a3 8 ≤ a4.toInt ∧ a4.toInt ≤ fO h0 a3 9) (pre11 : (0 ≤ i0 ∧ i0 < fO h0 15 1) ∧ wz h0 i0 a2) (hQ : ∀ r h', (∃ q, r = some (.inl (bi q)) ∧ (q = true → GBz ls l1 h0 a1 a2 a3 (cf h0 a3 a4.toInt)) ∧ (q = false → ¬ GBz ls l1 h0 a1 a2 a3 (cf h0 a3 a4.toInt))) → OK h' → un [222, 223, 21212] h0 h' → (SGc ls h') → Q r h') : uCall Mt (d + 7) 54 [(.inr (.inr (some 8))), (.inr (.inr (some a1))), (.inr (.inr (some a2))), (.inr (.inr (some a3))), (.inl a4)] h0 kc ks Q := by
  have l_m120 : ((-120) : Int32).toInt = -120 := by decide
  have l_m1 : ((-1) : Int32).toInt = -1 := by decide
  have l_0 : ((0) : Int32).toInt = 0 := by decide
  have l_1 : ((1) : Int32).toInt = 1 := by decide
  have l_120 : ((120) : Int32).toInt = 120 := by decide
  refine uc_ink [some (.inr (.inr (some 8))), some (.inr (.inr (some a1))), some (.inr (.inr (some a2))), some (.inr (.inr (some a3))), some (.inl a4)] mt_54 (Nat.le_of_ble_eq_true rfl) rfl ?_
  refine ur_ldA rfl rfl ?_
  refine ur_ldA rfl rfl ?_
  refine ur_ldA rfl rfl ?_
  refine ur_ldI rfl rfl ?_
  refine ur_push rfl ?_
  refine ur_push rfl ?_
  refine ur_push rfl ?_
  obtain ⟨f2, hc1, k3⟩ := ok_8 hO0
  refine ur_inl rfl (rcv_of hc1) (Nat.le_of_ble_eq_true rfl) (Nat.le_of_ble_eq_true rfl) (sd_X5_fitDay hO0 g1 t1 g3 t3 _ (by show -60 ≤ a4.toInt ∧ a4.toInt ≤ 60; omega) _ (by show -1000000 ≤ (0 : Int32).toInt ∧ (0 : Int32).toInt ≤ 1000000; omega) _ (by show -120 ≤ ((-120) : Int32).toInt ∧ ((-120) : Int32).toInt ≤ 120; omega) _ (by show -120 ≤ ((-1) : Int32).toInt ∧ ((-1) : Int32).toInt ≤ 120; omega) pre0 pre1 pre2 pre3 pre4 pre5 pre6 pre7 pre8 pre9 pre10 (fun w4 h7 hr5 hO7 hv7 hp6 => ?_))
  have hu7 := hv7
  obtain ⟨x8, rfl, f9⟩ := hr5
  show uRun _ (uCall Mt _) _ 12 (_, [(.inl x8)], _, _, _)
  obtain ⟨⟨r10, rr11, F12⟩, bb13⟩ := f9
  rw [l_0, Int.add_zero, l_m120, l_m1] at F12
  have F14 := FCz.of rr11 F12
  refine ur_push rfl ?_
  refine ur_if2 rfl (fun c15 => ?_) (fun c15 => ?_)
  · have t16 := eq_to c15
    refine ur_push rfl ?_
    exact ur_ret rfl rfl (hQ _ _ ⟨false, rfl, fun e => absurd e (by decide), fun _ => (fun ⟨⟨_, f, n⟩, _⟩ => n ((f.u F14).trans (by omega)))⟩ hO7 hu7 hp6)
  · have t17 := eq_no c15
    refine ur_ldA rfl rfl ?_
    refine ur_ldA rfl rfl ?_
    refine ur_ldA rfl rfl ?_
    refine ur_ldI rfl rfl ?_
    refine ur_push rfl ?_
    refine ur_push rfl ?_
    refine ur_push rfl ?_
    refine ur_inl rfl (rcv_of (hv7.ko (n := 5) hc1 rfl (wid_f (by decide)) (by decide))) (Nat.le_of_ble_eq_true rfl) (Nat.le_of_ble_eq_true rfl) (sd_X5_fitDay hO7 g2 (hu7.tm t2 (by decide)) g3 (hu7.tm t3 (by decide)) _ (by show -60 ≤ a4.toInt ∧ a4.toInt ≤ 60; omega) _ (by show -1000000 ≤ (0 : Int32).toInt ∧ (0 : Int32).toInt ≤ 1000000; omega) _ (by show -120 ≤ (1 : Int32).toInt ∧ (1 : Int32).toInt ≤ 120; omega) _ (by show -120 ≤ (120 : Int32).toInt ∧ (120 : Int32).toInt ≤ 120; omega) (pre0.un hO0 hO7 hv7 (by decide)) hp6 (cz_un hO0 hO7 hu7 pre2 (by decide) (by decide)) ((txC_un hO0 hO7 hu7 (by decide) 9 (by decide)).trans pre3) pre4 ((txC_un hO0 hO7 hu7 (by decide) 11 (by decide)).trans pre5) pre6 (wz_un hO0 hO7 hu7 pre11 (by decide) (by decide)) (pre8.un hO0 hO7 hu7 (by decide)) (pre9.un hO0 hO7 hu7 (by decide)) (by rw [fO_eA (fC_un hO0 hu7 g3 t3 (k := 8) (by decide) (by decide)), fO_eA (fC_un hO0 hu7 g3 t3 (k := 9) (by decide) (by decide))]; exact pre10) (fun w18 h21 hr19 hO21 hv21 hp20 => ?_))
    have hu21 := hv21
    obtain ⟨x22, rfl, f23⟩ := hr19
    show uRun _ (uCall Mt _) _ 28 (_, [(.inl x22)], _, _, _)
    obtain ⟨⟨r24, rr25, F26⟩, bb27⟩ := f23
    rw [l_0, Int.add_zero, l_1, l_120] at F26
    have F28 := FCz.of rr25 F26
    have F29 := F28.un hO0 hu7 ⟨g2, t2⟩ ⟨g3, t3⟩ (by decide)
    rw [cf_un hO0 hu7 g3 t3 (by decide)] at F29
    refine ur_push rfl ?_
    refine ur_if2 rfl (fun c30 => ?_) (fun c30 => ?_)
    · have t31 := eq_to c30
      refine ur_push rfl ?_
      exact ur_ret rfl rfl (hQ _ _ ⟨false, rfl, fun e => absurd e (by decide), fun _ => (fun ⟨_, _, f, n⟩ => n ((f.u F29).trans (by omega)))⟩ hO21 (hu7.tr hu21) hp20)
    · have t32 := eq_no c30
      refine ur_push rfl ?_
      refine ur_go rfl ?_
      exact ur_ret rfl rfl (hQ _ _ ⟨true, rfl, fun _ => ⟨⟨x8.toInt, F14, by omega⟩, ⟨x22.toInt, F29, by omega⟩⟩, fun e => absurd e (by decide)⟩ hO21 (hu7.tr hu21) hp20)

set_option maxRecDepth 20000 in
set_option maxHeartbeats 4000000 in
theorem sd_X11_behind {d kc ks : Nat} {h0 : aH} {Q : Option aV → aH → Prop} {ls : List (List (Int × Int) × List (Int × Int))} {l1 : List (List (Int × Int) × List (Int × Int))} (hO0 : OK h0) (a1 : Int32) (a2 : Int32) (pre0 : NA h0) (pre1 : SGc ls h0) (pre2 : SKc h0) (pre3 : txC h0 9 = cfl 0 ls) (pre4 : ∀ l ∈ ls, lnG l) (pre5 : txC h0 11 = cfl 0 l1) (pre6 : ∀ l ∈ l1, lnG l) (pre7 : RTW h0) (pre8 : LDw h0) (hQ : ∀ r h', (∃ x : Int32, r = some (.inl x) ∧ ((¬ ((0 ≤ a1.toInt ∧ a1.toInt < fO h0 15 1) ∧ (0 ≤ a2.toInt ∧ a2.toInt < fO h0 15 1) ∧ a1.toInt ≠ a2.toInt) → x.toInt = -1) ∧ (((0 ≤ a1.toInt ∧ a1.toInt < fO h0 15 1) ∧ (0 ≤ a2.toInt ∧ a2.toInt < fO h0 15 1) ∧ a1.toInt ≠ a2.toInt) → ∃ w o, wz h0 a1.toInt w ∧ wz h0 a2.toInt o ∧ BHc (fO h0 1 4) (fun c => fO h0 (co h0 c) 8) (fun c => fO h0 (co h0 c) 9) (fun c j => BPz ls l1 h0 w o (co h0 c) j) x.toInt))) → OK h' → un [222, 223, 21212] h0 h' → (SGc ls h') → Q r h') : uCall Mt (d + 8) 143 [(.inr (.inr (some 0))), (.inl a1), (.inl a2)] h0 kc ks Q := by
  have l_m2 : ((-2) : Int32).toInt = -2 := by decide
  have l_m1 : ((-1) : Int32).toInt = -1 := by decide
  have l_0 : ((0) : Int32).toInt = 0 := by decide
  have l_1 : ((1) : Int32).toInt = 1 := by decide
  have l_100 : ((100) : Int32).toInt = 100 := by decide
  have l_1000 : ((1000) : Int32).toInt = 1000 := by decide
  refine uc_ink [some (.inr (.inr (some 0))), some (.inl a1), some (.inl a2), none, none, none, none, none] mt_143 (Nat.le_of_ble_eq_true rfl) rfl ?_
  obtain ⟨f2, f3, hc1, k4⟩ := ok_1 hO0
  have t5 := fO_of (k := 4) hc1 rfl
  obtain ⟨f7, f8, f9, f10, hc6, k11⟩ := ok_15 hO0
  have t12 := fO_of (k := 1) hc6 rfl
  refine ur_ldA rfl rfl ?_
  obtain ⟨hc13, k14⟩ := ok_0 hO0
  refine ur_get rfl hc13 rfl ?_
  refine ur_ldI rfl rfl ?_
  refine ur_inl rfl (rcv_of hc6) (Nat.le_of_ble_eq_true rfl) (Nat.le_of_ble_eq_true rfl) (se_X1_wordAt hO0 _ pre0 (fun w15 hr16 => ?_))
  obtain ⟨o17, rfl, k18, t19, t20⟩ := hr16
  show uRun _ (uCall Mt _) _ 8 (_, [(.inr (.inr o17))], _, _, _)
  refine ur_svAk [some (.inr (.inr (some 0))), some (.inl a1), some (.inl a2), some (.inr (.inr o17)), none, none, none, none] rfl rfl ?_
  refine ur_ldA rfl rfl ?_
  refine ur_get rfl hc13 rfl ?_
  refine ur_ldI rfl rfl ?_
  refine ur_inl rfl (rcv_of hc6) (Nat.le_of_ble_eq_true rfl) (Nat.le_of_ble_eq_true rfl) (se_X1_wordAt hO0 _ pre0 (fun w21 hr22 => ?_))
  obtain ⟨o23, rfl, k24, t25, t26⟩ := hr22
  show uRun _ (uCall Mt _) _ 17 (_, [(.inr (.inr o23))], _, _, _)
  refine ur_svAk [some (.inr (.inr (some 0))), some (.inl a1), some (.inl a2), some (.inr (.inr o17)), some (.inr (.inr o23)), none, none, none] rfl rfl ?_
  refine ur_ldA rfl rfl ?_
  cases o17 with
  | none =>
    refine ur_nulN rfl ?_
    have t28 := t19 rfl
    refine ur_push rfl ?_
    exact ur_ret rfl rfl (hQ _ _ ⟨_, rfl, ⟨fun _ => by omega, fun q => by exfalso; omega⟩⟩ hO0 un.rf pre1)
  | some r27 =>
    refine ur_nulS rfl ?_
    have k29 := k18 _ rfl
    have t30 := t20 _ rfl
    refine ur_ldA rfl rfl ?_
    cases o23 with
    | none =>
      refine ur_nulN rfl ?_
      have t32 := t25 rfl
      refine ur_push rfl ?_
      exact ur_ret rfl rfl (hQ _ _ ⟨_, rfl, ⟨fun _ => by omega, fun q => by exfalso; omega⟩⟩ hO0 un.rf pre1)
    | some r31 =>
      refine ur_nulS rfl ?_
      have k33 := k24 _ rfl
      have t34 := t26 _ rfl
      refine ur_ldI rfl rfl ?_
      refine ur_ldI rfl rfl ?_
      have z35 := any_r a1
      have z36 := any_r a2
      refine ur_if2 rfl (fun c37 => ?_) (fun c37 => ?_)
      · have t38 := ne_to c37
        refine ur_push rfl ?_
        refine ur_svIk [some (.inr (.inr (some 0))), some (.inl a1), some (.inl a2), some (.inr (.inr (some r27))), some (.inr (.inr (some r31))), some (.inl 0), none, none] rfl rfl ?_
        have L42 : ∀ (m43 : Nat) (x39 : Int32) (u40 : Option aV) (u41 : Option aV) (h45 : aH) , OK h45 → un [222, 223, 21212] h0 h45 → ((0 ≤ x39.toInt ∧ x39.toInt ≤ 12) ∧ x39.toInt ≤ fO h0 1 4) → (NBq x39.toInt (fun c => LKq (fO h0 (co h0 c) 8) (fO h0 (co h0 c) 9 + 1) (BPz ls l1 h0 r27 r31 (co h0 c)))) → (SGc ls h45) → ((13 - x39.toInt).toNat) < m43 → uRun oX11_behind (uCall Mt (d + 7)) Q 38 ([some (.inr (.inr (some 0))), some (.inl a1), some (.inl a2), some (.inr (.inr (some r27))), some (.inr (.inr (some r31))), some (.inl x39), u40, u41], [], h45, kc, ks) := by
          intro m43
          induction m43 with
          | zero => intro x39 u40 u41 h45 hO45 hu45 iv48 px46 px47 mm49; omega
          | succ m43 ih44 =>
            intro x39 u40 u41 h45 hO45 hu45 iv48 px46 px47 mm49
            refine ur_ldI rfl rfl ?_
            refine ur_ldA rfl rfl ?_
            refine ur_get rfl (hu45.ko (n := 8) hc13 rfl (wid_f (by decide)) (by decide)) rfl ?_
            refine ur_get rfl (hu45.ko (n := 5) hc1 rfl (wid_f (by decide)) (by decide)) rfl ?_
            have t50 := fO_of (k := 4) (hu45.ko (n := 5) hc1 rfl (wid_f (by decide)) (by decide)) rfl
            have z51 := any_r x39
            have z52 := any_r f3
            refine ur_if2 rfl (fun c53 => ?_) (fun c53 => ?_)
            · have t54 := le_to c53
              refine ur_push rfl ?_
              have t55 := fO_of (k := 1) (hu45.ko (n := 11) hc6 rfl (wid_f (by decide)) (by decide)) rfl
              exact ur_ret rfl rfl (hQ _ _ ⟨_, rfl, ⟨fun q => absurd (by omega) q, fun _ => ⟨r27, r31, t30.2, t34.2, Or.inl ⟨by omega, (by have q := px46; rw [show x39.toInt = fO h0 1 4 by omega] at q; exact q)⟩⟩⟩⟩ hO45 hu45 px47)
            · have t56 := le_no c53
              refine ur_ldA rfl rfl ?_
              refine ur_get rfl (hu45.ko (n := 8) hc13 rfl (wid_f (by decide)) (by decide)) rfl ?_
              refine ur_ldI rfl rfl ?_
              refine ur_inl rfl (rcv_of (hu45.ko (n := 5) hc1 rfl (wid_f (by decide)) (by decide))) (Nat.le_of_ble_eq_true rfl) (Nat.le_of_ble_eq_true rfl) (sd_X6_cometAt hO45 _ (pre2.un hO0 hO45 hu45 (by decide)) (fun w57 hr58 => ?_))
              obtain ⟨o59, rfl, k60, t61, t62⟩ := hr58
              show uRun _ (uCall Mt _) _ 59 (_, [(.inr (.inr o59))], _, _, _)
              refine ur_svAk [some (.inr (.inr (some 0))), some (.inl a1), some (.inl a2), some (.inr (.inr (some r27))), some (.inr (.inr (some r31))), some (.inl x39), some (.inr (.inr o59)), u41] rfl rfl ?_
              refine ur_ldA rfl rfl ?_
              cases o59 with
              | none =>
                refine ur_nulN rfl ?_
                have t64 := t61 rfl
                refine ur_go rfl ?_
                refine ur_incV (fun z => [some (.inr (.inr (some 0))), some (.inl a1), some (.inl a2), some (.inr (.inr (some r27))), some (.inr (.inr (some r31))), some (.inl z), some (.inr (.inr none)), u41]) rfl rfl (fun _ => rfl) (fun x65 e66 => ?_)
                have t67 := ti_add e66 (by omega) (by omega)
                refine ur_go rfl ?_
                have t68 := fO_of (k := 1) (hu45.ko (n := 11) hc6 rfl (wid_f (by decide)) (by decide)) rfl
                have z69 := any_r x65
                exact ih44 x65 _ _ _ hO45 hu45 (by omega) (by exfalso; omega) px47 (by omega)
              | some r63 =>
                refine ur_nulS rfl ?_
                have k70 := k60 _ rfl
                have t71 := t62 _ rfl
                have zo72 := cz_nu hO0 hO45 hu45 t71 (by decide) (by decide)
                have zt73 := cz_ok hO0 zo72.2
                have co74 := co_of zo72.2
                obtain ⟨g95, f76, f77, f78, f79, f80, f81, f82, f83, f84, f85, q86, q87, o88, q89, hc75, k90, k91, k92, k93, k94⟩ := hO45.comet (hu45.tm zt73.2 (by decide))
                have t96 := fO_of (k := 8) hc75 rfl
                have tt97 : fO h45 r63 8 = fO h0 r63 8 := fO_eA (fC_un hO0 hu45 g95 zt73.2 (k := 8) (by decide) (by decide))
                have t98 := fO_of (k := 9) hc75 rfl
                have tt99 : fO h45 r63 9 = fO h0 r63 9 := fO_eA (fC_un hO0 hu45 g95 zt73.2 (k := 9) (by decide) (by decide))
                refine ur_ldA rfl rfl ?_
                refine ur_get rfl hc75 rfl ?_
                refine ur_svIk [some (.inr (.inr (some 0))), some (.inl a1), some (.inl a2), some (.inr (.inr (some r27))), some (.inr (.inr (some r31))), some (.inl x39), some (.inr (.inr (some r63))), some (.inl f84)] rfl rfl ?_
                have t104 := fO_of (k := 1) (hu45.ko (n := 11) hc6 rfl (wid_f (by decide)) (by decide)) rfl
                have L101 : ∀ (m102 : Nat) (x100 : Int32) (h105 : aH) , OK h105 → un [222, 223, 21212] h45 h105 → ((-60 ≤ x100.toInt ∧ x100.toInt ≤ 61) ∧ fO h0 r63 8 ≤ x100.toInt ∧ x100.toInt ≤ fO h0 r63 9 + 1) → (LKq (fO h0 r63 8) x100.toInt (BPz ls l1 h0 r27 r31 r63)) → (SGc ls h105) → ((62 - x100.toInt).toNat) < m102 → uRun oX11_behind (uCall Mt (d + 7)) Q 76 ([some (.inr (.inr (some 0))), some (.inl a1), some (.inl a2), some (.inr (.inr (some r27))), some (.inr (.inr (some r31))), some (.inl x39), some (.inr (.inr (some r63))), some (.inl x100)], [], h105, kc, ks) := by
                  intro m102
                  induction m102 with
                  | zero => intro x100 h105 hO105 hu105 iv108 px106 px107 mm109; omega
                  | succ m102 ih103 =>
                    intro x100 h105 hO105 hu105 iv108 px106 px107 mm109
                    refine ur_ldI rfl rfl ?_
                    refine ur_ldA rfl rfl ?_
                    obtain ⟨g130, f111, f112, f113, f114, f115, f116, f117, f118, f119, f120, q121, q122, o123, q124, hc110, k125, k126, k127, k128, k129⟩ := hO105.comet (hu105.tm (hu45.tm zt73.2 (by decide)) (by decide))
                    refine ur_get rfl hc110 rfl ?_
                    have t131 := fO_of (k := 8) hc110 rfl
                    have tt132 : fO h105 r63 8 = fO h0 r63 8 := fO_eA (fC_un hO0 (hu45.tr hu105) g130 zt73.2 (k := 8) (by decide) (by decide))
                    have t133 := fO_of (k := 9) hc110 rfl
                    have tt134 : fO h105 r63 9 = fO h0 r63 9 := fO_eA (fC_un hO0 (hu45.tr hu105) g130 zt73.2 (k := 9) (by decide) (by decide))
                    have z135 := any_r x100
                    have z136 := any_r f120
                    refine ur_if2 rfl (fun c137 => ?_) (fun c137 => ?_)
                    · have t138 := lt_to c137
                      refine ur_incV (fun z => [some (.inr (.inr (some 0))), some (.inl a1), some (.inl a2), some (.inr (.inr (some r27))), some (.inr (.inr (some r31))), some (.inl z), some (.inr (.inr (some r63))), some (.inl x100)]) rfl rfl (fun _ => rfl) (fun x139 e140 => ?_)
                      have t141 := ti_add e140 (by omega) (by omega)
                      refine ur_go rfl ?_
                      have t142 := fO_of (k := 4) (hu105.ko (n := 5) (hu45.ko (n := 5) hc1 rfl (wid_f (by decide)) (by decide)) rfl (wid_f (by decide)) (by decide)) rfl
                      have t143 := fO_of (k := 1) (hu105.ko (n := 11) (hu45.ko (n := 11) hc6 rfl (wid_f (by decide)) (by decide)) rfl (wid_f (by decide)) (by decide)) rfl
                      have z144 := any_r x139
                      exact ih44 x139 _ _ _ hO105 (hu45.tr hu105) (by omega) (px46.s (by show LKq (fO h0 (co h0 x39.toInt) 8) _ _; rw [co74]; have q := px106; rw [show x100.toInt = fO h0 r63 9 + 1 by omega] at q; exact q) (by omega)) px107 (by omega)
                    · have t145 := lt_no c137
                      refine ur_ldA rfl rfl ?_
                      refine ur_get rfl (hu105.ko (n := 8) (hu45.ko (n := 8) hc13 rfl (wid_f (by decide)) (by decide)) rfl (wid_f (by decide)) (by decide)) rfl ?_
                      refine ur_ldA rfl rfl ?_
                      refine ur_ldA rfl rfl ?_
                      refine ur_ldA rfl rfl ?_
                      refine ur_ldI rfl rfl ?_
                      obtain ⟨f147, hc146, k148⟩ := ok_8 hO105
                      refine ur_inl rfl (rcv_of hc146) (Nat.le_of_ble_eq_true rfl) (Nat.le_of_ble_eq_true rfl) (sd_X5_goneBehind hO105 k29.1 (hu105.tm (hu45.tm k29.2 (by decide)) (by decide)) k33.1 (hu105.tm (hu45.tm k33.2 (by decide)) (by decide)) g130 (hu105.tm (hu45.tm zt73.2 (by decide)) (by decide)) _ (by show -60 ≤ x100.toInt ∧ x100.toInt ≤ 60; omega) ((pre2.un hO0 hO45 hu45 (by decide)).un hO45 hO105 hu105 (by decide)) px107 (cz_un hO0 hO105 (hu45.tr hu105) zo72 (by decide) (by decide)) ((txC_un hO0 hO105 (hu45.tr hu105) (by decide) 9 (by decide)).trans pre3) pre4 ((txC_un hO0 hO105 (hu45.tr hu105) (by decide) 11 (by decide)).trans pre5) pre6 (wz_un hO0 hO105 (hu45.tr hu105) t30 (by decide) (by decide)) (pre7.un hO0 hO105 (hu45.tr hu105) (by decide)) (pre8.un hO0 hO105 (hu45.tr hu105) (by decide)) (by rw [fO_eA (fC_un hO0 (hu45.tr hu105) g130 zt73.2 (k := 8) (by decide) (by decide)), fO_eA (fC_un hO0 (hu45.tr hu105) g130 zt73.2 (k := 9) (by decide) (by decide))]; omega) (wz_un hO0 hO105 (hu45.tr hu105) t34 (by decide) (by decide)) (fun w149 h152 hr150 hO152 hv152 hp151 => ?_))
                      have hu152 := hv152
                      obtain ⟨b153, rfl, t154, t155⟩ := hr150
                      show uRun _ (uCall Mt _) _ 100 (_, [(.inl (bi b153))], _, _, _)
                      refine ur_neB rfl (fun c156 => ?_) (fun c156 => ?_)
                      · have t157 := t154 c156
                        clear t154 t155
                        refine ur_push rfl ?_
                        refine ur_ldI rfl rfl ?_
                        refine ur_binV rfl (fun x158 e159 => ?_)
                        have t160 := ti_mulR e159 l_1000 (by omega) (by omega)
                        refine ur_push rfl ?_
                        refine ur_binV rfl (fun x161 e162 => ?_)
                        have z163 := any_r x158
                        have t164 := ti_add e162 (by omega) (by omega)
                        refine ur_ldI rfl rfl ?_
                        refine ur_binV rfl (fun x165 e166 => ?_)
                        have z167 := any_r x161
                        have t168 := ti_add e166 (by omega) (by omega)
                        have t169 := fO_of (k := 4) (hv152.ko (n := 5) (hu105.ko (n := 5) (hu45.ko (n := 5) hc1 rfl (wid_f (by decide)) (by decide)) rfl (wid_f (by decide)) (by decide)) rfl (wid_f (by decide)) (by decide)) rfl
                        have t170 := fO_of (k := 1) (hv152.ko (n := 11) (hu105.ko (n := 11) (hu45.ko (n := 11) hc6 rfl (wid_f (by decide)) (by decide)) rfl (wid_f (by decide)) (by decide)) rfl (wid_f (by decide)) (by decide)) rfl
                        exact ur_ret rfl rfl (hQ _ _ ⟨_, rfl, ⟨fun q => absurd (by omega) q, fun _ => ⟨r27, r31, t30.2, t34.2, Or.inr ⟨x39.toInt, x100.toInt, by omega, (by show fO h0 (co h0 _) 8 ≤ _ ∧ _ ≤ fO h0 (co h0 _) 9; rw [co74]; omega), by omega, (by show BPz ls l1 h0 r27 r31 (co h0 _) _; rw [co74]; exact Or.inl (by have q := t157; rw [cf_un hO0 (hu45.tr hu105) g130 zt73.2 (by decide), GBz.un hO0 hO105 (hu45.tr hu105) ⟨k29.1, k29.2⟩ ⟨k33.1, k33.2⟩ zt73 (by decide)] at q; exact q)), (by show LKq (fO h0 (co h0 _) 8) _ (BPz ls l1 h0 r27 r31 (co h0 _)); rw [co74]; exact px106), px46⟩⟩⟩⟩ hO152 (hu45.tr (hu105.tr hu152)) hp151)
                      · have t171 := t155 c156
                        clear t154 t155
                        refine ur_ldA rfl rfl ?_
                        refine ur_get rfl (hv152.ko (n := 8) (hu105.ko (n := 8) (hu45.ko (n := 8) hc13 rfl (wid_f (by decide)) (by decide)) rfl (wid_f (by decide)) (by decide)) rfl (wid_f (by decide)) (by decide)) rfl ?_
                        refine ur_ldA rfl rfl ?_
                        refine ur_ldA rfl rfl ?_
                        refine ur_ldA rfl rfl ?_
                        refine ur_ldI rfl rfl ?_
                        refine ur_inl rfl (rcv_of (hv152.ko (n := 5) hc146 rfl (wid_f (by decide)) (by decide))) (Nat.le_of_ble_eq_true rfl) (Nat.le_of_ble_eq_true rfl) (sd_X5_goneBehind hO152 k33.1 (hu152.tm (hu105.tm (hu45.tm k33.2 (by decide)) (by decide)) (by decide)) k29.1 (hu152.tm (hu105.tm (hu45.tm k29.2 (by decide)) (by decide)) (by decide)) g130 (hu152.tm (hu105.tm (hu45.tm zt73.2 (by decide)) (by decide)) (by decide)) _ (by show -60 ≤ x100.toInt ∧ x100.toInt ≤ 60; omega) (((pre2.un hO0 hO45 hu45 (by decide)).un hO45 hO105 hu105 (by decide)).un hO105 hO152 hv152 (by decide)) hp151 (cz_un hO0 hO152 (hu45.tr (hu105.tr hu152)) zo72 (by decide) (by decide)) ((txC_un hO0 hO152 (hu45.tr (hu105.tr hu152)) (by decide) 9 (by decide)).trans pre3) pre4 ((txC_un hO0 hO152 (hu45.tr (hu105.tr hu152)) (by decide) 11 (by decide)).trans pre5) pre6 (wz_un hO0 hO152 (hu45.tr (hu105.tr hu152)) t34 (by decide) (by decide)) (pre7.un hO0 hO152 (hu45.tr (hu105.tr hu152)) (by decide)) (pre8.un hO0 hO152 (hu45.tr (hu105.tr hu152)) (by decide)) (by rw [fO_eA (fC_un hO0 (hu45.tr (hu105.tr hu152)) g130 zt73.2 (k := 8) (by decide) (by decide)), fO_eA (fC_un hO0 (hu45.tr (hu105.tr hu152)) g130 zt73.2 (k := 9) (by decide) (by decide))]; omega) (wz_un hO0 hO152 (hu45.tr (hu105.tr hu152)) t30 (by decide) (by decide)) (fun w172 h175 hr173 hO175 hv175 hp174 => ?_))
                        have hu175 := hv175
                        obtain ⟨b176, rfl, t177, t178⟩ := hr173
                        show uRun _ (uCall Mt _) _ 117 (_, [(.inl (bi b176))], _, _, _)
                        refine ur_eqB rfl (fun c179 => ?_) (fun c179 => ?_)
                        · have t180 := t178 c179
                          clear t177 t178
                          refine ur_incV (fun z => [some (.inr (.inr (some 0))), some (.inl a1), some (.inl a2), some (.inr (.inr (some r27))), some (.inr (.inr (some r31))), some (.inl x39), some (.inr (.inr (some r63))), some (.inl z)]) rfl rfl (fun _ => rfl) (fun x181 e182 => ?_)
                          have t183 := ti_add e182 (by omega) (by omega)
                          refine ur_go rfl ?_
                          have hc184 := (hv175.ko (n := 5) (hv152.ko (n := 5) (hu105.ko (n := 5) (hu45.ko (n := 5) hc1 rfl (wid_f (by decide)) (by decide)) rfl (wid_f (by decide)) (by decide)) rfl (wid_f (by decide)) (by decide)) rfl (wid_f (by decide)) (by decide))
                          have t185 := fO_of (k := 4) hc184 rfl
                          have hc186 := (hv175.ko (n := 11) (hv152.ko (n := 11) (hu105.ko (n := 11) (hu45.ko (n := 11) hc6 rfl (wid_f (by decide)) (by decide)) rfl (wid_f (by decide)) (by decide)) rfl (wid_f (by decide)) (by decide)) rfl (wid_f (by decide)) (by decide))
                          have t187 := fO_of (k := 1) hc186 rfl
                          have z188 := any_r x181
                          exact ih103 x181 _ hO175 (hu105.tr (hu152.tr hu175)) (by omega) (px106.s (fun q => q.elim (by have q := t171; rw [cf_un hO0 (hu45.tr hu105) g130 zt73.2 (by decide), GBz.un hO0 hO105 (hu45.tr hu105) ⟨k29.1, k29.2⟩ ⟨k33.1, k33.2⟩ zt73 (by decide)] at q; exact q) (by have q := t180; rw [cf_un hO0 (hu45.tr (hu105.tr hu152)) g130 zt73.2 (by decide), GBz.un hO0 hO152 (hu45.tr (hu105.tr hu152)) ⟨k33.1, k33.2⟩ ⟨k29.1, k29.2⟩ zt73 (by decide)] at q; exact q)) (by omega)) hp174 (by omega)
                        · have t189 := t177 c179
                          clear t177 t178
                          refine ur_push rfl ?_
                          refine ur_ldI rfl rfl ?_
                          refine ur_binV rfl (fun x190 e191 => ?_)
                          have t192 := ti_mulR e191 l_1000 (by omega) (by omega)
                          refine ur_push rfl ?_
                          refine ur_binV rfl (fun x193 e194 => ?_)
                          have z195 := any_r x190
                          have t196 := ti_add e194 (by omega) (by omega)
                          refine ur_ldI rfl rfl ?_
                          refine ur_binV rfl (fun x197 e198 => ?_)
                          have z199 := any_r x193
                          have t200 := ti_add e198 (by omega) (by omega)
                          have hc201 := (hv175.ko (n := 5) (hv152.ko (n := 5) (hu105.ko (n := 5) (hu45.ko (n := 5) hc1 rfl (wid_f (by decide)) (by decide)) rfl (wid_f (by decide)) (by decide)) rfl (wid_f (by decide)) (by decide)) rfl (wid_f (by decide)) (by decide))
                          have t202 := fO_of (k := 4) hc201 rfl
                          have hc203 := (hv175.ko (n := 11) (hv152.ko (n := 11) (hu105.ko (n := 11) (hu45.ko (n := 11) hc6 rfl (wid_f (by decide)) (by decide)) rfl (wid_f (by decide)) (by decide)) rfl (wid_f (by decide)) (by decide)) rfl (wid_f (by decide)) (by decide))
                          have t204 := fO_of (k := 1) hc203 rfl
                          exact ur_ret rfl rfl (hQ _ _ ⟨_, rfl, ⟨fun q => absurd (by omega) q, fun _ => ⟨r27, r31, t30.2, t34.2, Or.inr ⟨x39.toInt, x100.toInt, by omega, (by show fO h0 (co h0 _) 8 ≤ _ ∧ _ ≤ fO h0 (co h0 _) 9; rw [co74]; omega), by omega, (by show BPz ls l1 h0 r27 r31 (co h0 _) _; rw [co74]; exact Or.inr (by have q := t189; rw [cf_un hO0 (hu45.tr (hu105.tr hu152)) g130 zt73.2 (by decide), GBz.un hO0 hO152 (hu45.tr (hu105.tr hu152)) ⟨k33.1, k33.2⟩ ⟨k29.1, k29.2⟩ zt73 (by decide)] at q; exact q)), (by show LKq (fO h0 (co h0 _) 8) _ (BPz ls l1 h0 r27 r31 (co h0 _)); rw [co74]; exact px106), px46⟩⟩⟩⟩ hO175 (hu45.tr (hu105.tr (hu152.tr hu175))) hp174)
                have z205 := any_r f84
                exact L101 _ f84 _ hO45 un.rf (by omega) (LKq.z (by omega)) px47 (Nat.lt_succ_self _)
        exact L42 _ 0 (none) (none) _ hO0 un.rf (by omega) (NBq.z (by omega)) pre1 (Nat.lt_succ_self _)
      · have t206 := ne_no c37
        refine ur_push rfl ?_
        exact ur_ret rfl rfl (hQ _ _ ⟨_, rfl, ⟨fun _ => by omega, fun q => by exfalso; omega⟩⟩ hO0 un.rf pre1)

set_option maxRecDepth 20000 in
set_option maxHeartbeats 4000000 in
theorem sd_X12_isAheadThenBehind {d kc ks : Nat} {h0 : aH} {Q : Option aV → aH → Prop} {ls : List (List (Int × Int) × List (Int × Int))} {l1 : List (List (Int × Int) × List (Int × Int))} {M : Nat → List (List (Int × Int) × List (Int × Int))} (hO0 : OK h0) (hX0 : SX h0) (a1 : Int32) (b1 : 0 ≤ a1.toInt ∧ a1.toInt ≤ 149) (a2 : Int32) (b2 : 0 ≤ a2.toInt ∧ a2.toInt ≤ 149) (a3 : Int32) (b3 : 0 ≤ a3.toInt ∧ a3.toInt ≤ 11) (a4 : Int32) (b4 : 0 ≤ a4.toInt ∧ a4.toInt ≤ 999999) (pre0 : SKm h0) (pre1 : a1.toInt < fI h0 38) (pre2 : a2.toInt < fI h0 38) (pre3 : a3.toInt < fI h0 4) (pre4 : RLn h0 0 ls) (pre5 : ∀ l ∈ ls, lnG l) (pre6 : RXF h0 M) (pre7 : SLm h0) (pre8 : RLn h0 1 l1) (pre9 : ∀ l ∈ l1, lnG l) (pre10 : LDm h0) (hQ : ∀ r h', (∃ q, r = some (.inl (bi q)) ∧ (q = true → AHm ls l1 h0 M a1.toInt a2.toInt a3.toInt a4.toInt) ∧ (q = false → ¬ AHm ls l1 h0 M a1.toInt a2.toInt a3.toInt a4.toInt)) → OK h' → un [] h0 h' → Q r h') : uCall Mt (d + 8) 257 [(.inr (.inr (some 69))), (.inl a1), (.inl a2), (.inl a3), (.inl a4)] h0 kc ks Q := by
  have l_0 : ((0) : Int32).toInt = 0 := by decide
  have l_1 : ((1) : Int32).toInt = 1 := by decide
  refine uc_ink [some (.inr (.inr (some 69))), some (.inl a1), some (.inl a2), some (.inl a3), some (.inl a4), none] mt_257 (Nat.le_of_ble_eq_true rfl) rfl ?_
  obtain ⟨fs1, hc2⟩ := hO0.mod
  obtain ⟨f3, p4, t5⟩ := mf_4 hO0 hc2
  have t6 := fI_of hc2 p4
  obtain ⟨f7, p8, t9⟩ := mf_38 hO0 hc2
  have t10 := fI_of hc2 p8
  refine ur_ldA rfl rfl ?_
  refine ur_ldI rfl rfl ?_
  refine ur_ldI rfl rfl ?_
  refine ur_ldI rfl rfl ?_
  refine ur_push rfl ?_
  refine ur_push rfl ?_
  obtain ⟨f11, p12⟩ := mf_15 hO0 hc2
  have t13 := fI_of hc2 p12
  obtain ⟨f14, p15⟩ := mf_16 hO0 hc2
  have t16 := fI_of hc2 p15
  obtain ⟨f17, p18⟩ := mf_17 hO0 hc2
  have t19 := fI_of hc2 p18
  obtain ⟨f20, p21⟩ := mf_50 hO0 hc2
  have t22 := fI_of hc2 p21
  obtain ⟨f23, p24⟩ := mf_51 hO0 hc2
  have t25 := fI_of hc2 p24
  obtain ⟨f26, p27⟩ := mf_52 hO0 hc2
  have t28 := fI_of hc2 p27
  obtain ⟨f29, p30⟩ := mf_53 hO0 hc2
  have t31 := fI_of hc2 p30
  refine ur_inl rfl (rcv_of hc2) (Nat.le_of_ble_eq_true rfl) (Nat.le_of_ble_eq_true rfl) (sd_X12_fitDay hO0 hX0 _ (by show 0 ≤ a1.toInt ∧ a1.toInt ≤ 149; omega) _ (by show 0 ≤ a3.toInt ∧ a3.toInt ≤ 11; omega) _ (by show -20000 ≤ a4.toInt ∧ a4.toInt ≤ 1020000; omega) _ (by show -400 ≤ (0 : Int32).toInt ∧ (0 : Int32).toInt ≤ 400; omega) _ (by show 0 ≤ (0 : Int32).toInt ∧ (0 : Int32).toInt ≤ 1000000; omega) pre0 (by omega) (by omega) pre4 pre5 pre6 pre7 pre8 pre9 pre10 (fun w32 h34 hr33 hO34 hv34 => ?_))
  have hu34 := hv34
  obtain ⟨x35, rfl, f36⟩ := hr33
  show uRun _ (uCall Mt _) _ 10 (_, [(.inl x35)], _, _, _)
  have F37 := f36.1
  rw [l_0] at F37
  have F38 : FMz ls l1 h0 M a1.toInt a3.toInt _ 0 _ _ := F37
  refine ur_svIk [some (.inr (.inr (some 69))), some (.inl a1), some (.inl a2), some (.inl a3), some (.inl a4), some (.inl x35)] rfl rfl ?_
  refine ur_ldI rfl rfl ?_
  refine ur_if1 rfl (fun c39 => ?_) (fun c39 => ?_)
  · have t40 := lt_to c39
    refine ur_push rfl ?_
    obtain ⟨fs41, hc42⟩ := hO34.mod
    obtain ⟨f43, p44, t45⟩ := mf_4 hO34 hc42
    have t46 := fI_of hc42 p44
    obtain ⟨f47, p48, t49⟩ := mf_38 hO34 hc42
    have t50 := fI_of hc42 p48
    have t51 := fI_keep (k := 4) hO0 hO34 hu34 rfl (by decide)
    have t52 := fI_keep (k := 38) hO0 hO34 hu34 rfl (by decide)
    exact ur_ret rfl rfl (hQ _ _ ⟨false, rfl, fun e => absurd e (by decide), fun _ => (fun ⟨⟨_, f, n, m⟩, _⟩ => by have q := f.u F38; omega)⟩ hO34 hu34)
  · have t53 := lt_no c39
    refine ur_ldI rfl rfl ?_
    refine ur_ldI rfl rfl ?_
    have z54 := any_r x35
    have z55 := any_r a4
    refine ur_if2 rfl (fun c56 => ?_) (fun c56 => ?_)
    · have t57 := le_to c56
      refine ur_push rfl ?_
      obtain ⟨fs58, hc59⟩ := hO34.mod
      obtain ⟨f60, p61, t62⟩ := mf_4 hO34 hc59
      have t63 := fI_of hc59 p61
      obtain ⟨f64, p65, t66⟩ := mf_38 hO34 hc59
      have t67 := fI_of hc59 p65
      have t68 := fI_keep (k := 4) hO0 hO34 hu34 rfl (by decide)
      have t69 := fI_keep (k := 38) hO0 hO34 hu34 rfl (by decide)
      exact ur_ret rfl rfl (hQ _ _ ⟨false, rfl, fun e => absurd e (by decide), fun _ => (fun ⟨⟨_, f, n, m⟩, _⟩ => by have q := f.u F38; omega)⟩ hO34 hu34)
    · have t70 := le_no c56
      refine ur_ldA rfl rfl ?_
      refine ur_ldI rfl rfl ?_
      refine ur_ldI rfl rfl ?_
      refine ur_ldI rfl rfl ?_
      refine ur_push rfl ?_
      refine ur_ldI rfl rfl ?_
      refine ur_push rfl ?_
      refine ur_binV rfl (fun x71 e72 => ?_)
      have t73 := ti_add e72 (by omega) (by omega)
      obtain ⟨fs74, hc75⟩ := hO34.mod
      obtain ⟨f76, p77, t78⟩ := mf_4 hO34 hc75
      have t79 := fI_of hc75 p77
      obtain ⟨f80, p81, t82⟩ := mf_38 hO34 hc75
      have t83 := fI_of hc75 p81
      obtain ⟨f84, p85⟩ := mf_15 hO34 hc75
      have t86 := fI_of hc75 p85
      obtain ⟨f87, p88⟩ := mf_16 hO34 hc75
      have t89 := fI_of hc75 p88
      obtain ⟨f90, p91⟩ := mf_17 hO34 hc75
      have t92 := fI_of hc75 p91
      obtain ⟨f93, p94⟩ := mf_50 hO34 hc75
      have t95 := fI_of hc75 p94
      obtain ⟨f96, p97⟩ := mf_51 hO34 hc75
      have t98 := fI_of hc75 p97
      obtain ⟨f99, p100⟩ := mf_52 hO34 hc75
      have t101 := fI_of hc75 p100
      obtain ⟨f102, p103⟩ := mf_53 hO34 hc75
      have t104 := fI_of hc75 p103
      have t105 := fI_keep (k := 4) hO0 hO34 hu34 rfl (by decide)
      have t106 := fI_keep (k := 38) hO0 hO34 hu34 rfl (by decide)
      refine ur_inl rfl (rcv_of hc75) (Nat.le_of_ble_eq_true rfl) (Nat.le_of_ble_eq_true rfl) (sd_X12_fitDay hO34 (hX0.un hO0 hO34 hu34 (by decide)) _ (by show 0 ≤ a2.toInt ∧ a2.toInt ≤ 149; omega) _ (by show 0 ≤ a3.toInt ∧ a3.toInt ≤ 11; omega) _ (by show -20000 ≤ a4.toInt ∧ a4.toInt ≤ 1020000; omega) _ (by show -400 ≤ (0 : Int32).toInt ∧ (0 : Int32).toInt ≤ 400; omega) _ (by show 0 ≤ x71.toInt ∧ x71.toInt ≤ 1000000; omega) (pre0.un hO0 hO34 hv34 (by decide)) (by omega) (by omega) (pre4.keep (KN.un hO0 hu34 (by decide) (by decide) (by decide) (by decide) (by decide)) (by decide)) pre5 (rxf_uw pre6 hO0 hu34 (by decide)) (pre7.un hO0 hO34 hu34 (by decide) (by decide)) (pre8.keep (KN.un hO0 hu34 (by decide) (by decide) (by decide) (by decide) (by decide)) (by decide)) pre9 (pre10.un hO0 hO34 hu34 (by decide) (by decide)) (fun w107 h109 hr108 hO109 hv109 => ?_))
      have hu109 := hv109
      obtain ⟨x110, rfl, f111⟩ := hr108
      show uRun _ (uCall Mt _) _ 37 (_, [(.inl x110)], _, _, _)
      have F112 := f111.1
      rw [l_0, show x71.toInt = a4.toInt + 1 by omega] at F112
      have F113 := FMz.un (ls := ls) (l1 := l1) (M := M) (w := a2.toInt) (c := a3.toInt) (mv := 0) F112 hO0 hu34 (rt_c (CEm_of hO0 hX0) (KWm.un hO0 hu34 (by decide)) (by omega) (by omega)) (by decide)
      refine ur_if1 rfl (fun c114 => ?_) (fun c114 => ?_)
      · have t115 := lt_to c114
        refine ur_push rfl ?_
        obtain ⟨fs116, hc117⟩ := hO109.mod
        obtain ⟨f118, p119, t120⟩ := mf_4 hO109 hc117
        have t121 := fI_of hc117 p119
        obtain ⟨f122, p123, t124⟩ := mf_38 hO109 hc117
        have t125 := fI_of hc117 p123
        have t126 := fI_keep (k := 4) hO0 hO109 (hu34.tr hu109) rfl (by decide)
        have t127 := fI_keep (k := 38) hO0 hO109 (hu34.tr hu109) rfl (by decide)
        exact ur_ret rfl rfl (hQ _ _ ⟨false, rfl, fun e => absurd e (by decide), fun _ => (fun ⟨_, _, f, n⟩ => by have q := f.u F113; omega)⟩ hO109 (hu34.tr hu109))
      · have t128 := lt_no c114
        refine ur_push rfl ?_
        refine ur_go rfl ?_
        obtain ⟨fs129, hc130⟩ := hO109.mod
        obtain ⟨f131, p132, t133⟩ := mf_4 hO109 hc130
        have t134 := fI_of hc130 p132
        obtain ⟨f135, p136, t137⟩ := mf_38 hO109 hc130
        have t138 := fI_of hc130 p136
        have t139 := fI_keep (k := 4) hO0 hO109 (hu34.tr hu109) rfl (by decide)
        have t140 := fI_keep (k := 38) hO0 hO109 (hu34.tr hu109) rfl (by decide)
        exact ur_ret rfl rfl (hQ _ _ ⟨true, rfl, fun _ => ⟨⟨x35.toInt, F38, by omega, by omega⟩, ⟨x110.toInt, F113, by omega⟩⟩, fun e => absurd e (by decide)⟩ hO109 (hu34.tr hu109))

set_option maxRecDepth 20000 in
set_option maxHeartbeats 4000000 in
theorem se_X12_behind {d kc ks : Nat} {h0 : aH} {Q : Option aV → aH → Prop} {ls : List (List (Int × Int) × List (Int × Int))} {l1 : List (List (Int × Int) × List (Int × Int))} {M : Nat → List (List (Int × Int) × List (Int × Int))} (hO0 : OK h0) (hX0 : SX h0) (a1 : Int32) (a2 : Int32) (pre0 : SKm h0) (pre1 : RLn h0 0 ls) (pre2 : ∀ l ∈ ls, lnG l) (pre3 : RXF h0 M) (pre4 : SLm h0) (pre5 : RLn h0 1 l1) (pre6 : ∀ l ∈ l1, lnG l) (pre7 : LDm h0) (hQ : ∀ r h', (∃ x : Int32, r = some (.inl x) ∧ ((¬ ((0 ≤ a1.toInt ∧ a1.toInt < fI h0 38) ∧ (0 ≤ a2.toInt ∧ a2.toInt < fI h0 38) ∧ a1.toInt ≠ a2.toInt) → x.toInt = -1) ∧ (((0 ≤ a1.toInt ∧ a1.toInt < fI h0 38) ∧ (0 ≤ a2.toInt ∧ a2.toInt < fI h0 38) ∧ a1.toInt ≠ a2.toInt) → BHm (fI h0 4) (fun c j t => retV (NMh h0 (gI h0 73 c)) (gI h0 73 c) (gI h0 72 c) j t) (fun c t => BPm ls l1 h0 M a1.toInt a2.toInt c t) x.toInt))) → OK h' → un [80, 81] h0 h' → (SKm h') → Q r h') : uCall Mt (d + 9) 258 [(.inr (.inr (some 69))), (.inl a1), (.inl a2)] h0 kc ks Q := by
  have l_m60 : ((-60) : Int32).toInt = -60 := by decide
  have l_m2 : ((-2) : Int32).toInt = -2 := by decide
  have l_m1 : ((-1) : Int32).toInt = -1 := by decide
  have l_0 : ((0) : Int32).toInt = 0 := by decide
  have l_1 : ((1) : Int32).toInt = 1 := by decide
  have l_60 : ((60) : Int32).toInt = 60 := by decide
  have l_100 : ((100) : Int32).toInt = 100 := by decide
  have l_1000 : ((1000) : Int32).toInt = 1000 := by decide
  refine uc_ink [some (.inr (.inr (some 69))), some (.inl a1), some (.inl a2), none, none, none] mt_258 (Nat.le_of_ble_eq_true rfl) rfl ?_
  obtain ⟨fs1, hc2⟩ := hO0.mod
  obtain ⟨f3, p4, t5⟩ := mf_4 hO0 hc2
  have t6 := fI_of hc2 p4
  obtain ⟨f7, p8, t9⟩ := mf_38 hO0 hc2
  have t10 := fI_of hc2 p8
  refine ur_ldA rfl rfl ?_
  refine ur_ldI rfl rfl ?_
  refine ur_inl rfl (rcv_of hc2) (Nat.le_of_ble_eq_true rfl) (Nat.le_of_ble_eq_true rfl) (sd_X12_isWord hO0 _ (fun w11 hr12 => ?_))
  obtain ⟨b13, rfl, t14, t15⟩ := hr12
  show uRun _ (uCall Mt _) _ 5 (_, [(.inl (bi b13))], _, _, _)
  refine ur_eqB rfl (fun c16 => ?_) (fun c16 => ?_)
  · have t17 := t15 c16
    clear t14 t15
    refine ur_push rfl ?_
    exact ur_ret rfl rfl (hQ _ _ ⟨_, rfl, ⟨fun _ => by omega, fun q => by exfalso; omega⟩⟩ hO0 un.rf pre0)
  · have t18 := t14 c16
    clear t14 t15
    refine ur_ldA rfl rfl ?_
    refine ur_ldI rfl rfl ?_
    refine ur_inl rfl (rcv_of hc2) (Nat.le_of_ble_eq_true rfl) (Nat.le_of_ble_eq_true rfl) (sd_X12_isWord hO0 _ (fun w19 hr20 => ?_))
    obtain ⟨b21, rfl, t22, t23⟩ := hr20
    show uRun _ (uCall Mt _) _ 13 (_, [(.inl (bi b21))], _, _, _)
    refine ur_eqB rfl (fun c24 => ?_) (fun c24 => ?_)
    · have t25 := t23 c24
      clear t22 t23
      refine ur_push rfl ?_
      exact ur_ret rfl rfl (hQ _ _ ⟨_, rfl, ⟨fun _ => by omega, fun q => by exfalso; omega⟩⟩ hO0 un.rf pre0)
    · have t26 := t22 c24
      clear t22 t23
      refine ur_ldI rfl rfl ?_
      refine ur_ldI rfl rfl ?_
      have z27 := any_r a1
      have z28 := any_r a2
      refine ur_if2 rfl (fun c29 => ?_) (fun c29 => ?_)
      · have t30 := ne_to c29
        refine ur_push rfl ?_
        refine ur_svIk [some (.inr (.inr (some 69))), some (.inl a1), some (.inl a2), some (.inl 0), none, none] rfl rfl ?_
        have L34 : ∀ (m35 : Nat) (x31 : Int32) (u32 : Option aV) (u33 : Option aV) (h37 : aH) , OK h37 → un [80, 81] h0 h37 → ((0 ≤ x31.toInt ∧ x31.toInt ≤ 12) ∧ x31.toInt ≤ fI h0 4) → (NBq x31.toInt (fun c => LRq (-60) 61 (fun j t => retV (NMh h0 (gI h0 73 c)) (gI h0 73 c) (gI h0 72 c) j t) (BPm ls l1 h0 M a1.toInt a2.toInt c))) → (SKm h37) → ((13 - x31.toInt).toNat) < m35 → uRun oX12_behind (uCall Mt (d + 8)) Q 25 ([some (.inr (.inr (some 69))), some (.inl a1), some (.inl a2), some (.inl x31), u32, u33], [], h37, kc, ks) := by
          intro m35
          induction m35 with
          | zero => intro x31 u32 u33 h37 hO37 hu37 iv40 px38 px39 mm41; omega
          | succ m35 ih36 =>
            intro x31 u32 u33 h37 hO37 hu37 iv40 px38 px39 mm41
            refine ur_ldI rfl rfl ?_
            refine ur_ldA rfl rfl ?_
            obtain ⟨fs42, hc43⟩ := hO37.mod
            obtain ⟨f44, p45, t46⟩ := mf_4 hO37 hc43
            have t47 := fI_of hc43 p45
            have t48 := fI_keep (k := 4) hO0 hO37 hu37 rfl (by decide)
            have t49 := fI_keep (k := 38) hO0 hO37 hu37 rfl (by decide)
            refine ur_get rfl hc43 p45 ?_
            have z50 := any_r x31
            have z51 := any_r f44
            refine ur_if2 rfl (fun c52 => ?_) (fun c52 => ?_)
            · have t53 := le_to c52
              refine ur_push rfl ?_
              obtain ⟨f54, p55, t56⟩ := mf_38 hO37 hc43
              have t57 := fI_of hc43 p55
              exact ur_ret rfl rfl (hQ _ _ ⟨_, rfl, ⟨fun q => absurd (by omega) q, fun _ => Or.inl ⟨by omega, (by have q := px38; rw [show x31.toInt = fI h0 4 by omega] at q; exact q)⟩⟩⟩ hO37 hu37 px39)
            · have t58 := le_no c52
              refine ur_push rfl ?_
              refine ur_svIk [some (.inr (.inr (some 69))), some (.inl a1), some (.inl a2), some (.inl x31), some (.inl (-60)), u33] rfl rfl ?_
              obtain ⟨f64, p65, t66⟩ := mf_38 hO37 hc43
              have t67 := fI_of hc43 p65
              have L61 : ∀ (m62 : Nat) (x59 : Int32) (u60 : Option aV) (h68 : aH) , OK h68 → un [80, 81] h37 h68 → ((-60 ≤ x59.toInt ∧ x59.toInt ≤ 61)) → (LRq (-60) x59.toInt (fun j t => retV (NMh h0 (gI h0 73 x31.toInt)) (gI h0 73 x31.toInt) (gI h0 72 x31.toInt) j t) (BPm ls l1 h0 M a1.toInt a2.toInt x31.toInt)) → (SKm h68) → ((62 - x59.toInt).toNat) < m62 → uRun oX12_behind (uCall Mt (d + 8)) Q 37 ([some (.inr (.inr (some 69))), some (.inl a1), some (.inl a2), some (.inl x31), some (.inl x59), u60], [], h68, kc, ks) := by
                intro m62
                induction m62 with
                | zero => intro x59 u60 h68 hO68 hu68 iv71 px69 px70 mm72; omega
                | succ m62 ih63 =>
                  intro x59 u60 h68 hO68 hu68 iv71 px69 px70 mm72
                  refine ur_ldI rfl rfl ?_
                  refine ur_push rfl ?_
                  refine ur_if2 rfl (fun c73 => ?_) (fun c73 => ?_)
                  · have t74 := lt_to c73
                    refine ur_incV (fun z => [some (.inr (.inr (some 69))), some (.inl a1), some (.inl a2), some (.inl z), some (.inl x59), u60]) rfl rfl (fun _ => rfl) (fun x75 e76 => ?_)
                    have t77 := ti_add e76 (by omega) (by omega)
                    refine ur_go rfl ?_
                    obtain ⟨fs78, hc79⟩ := hO68.mod
                    obtain ⟨f80, p81, t82⟩ := mf_4 hO68 hc79
                    have t83 := fI_of hc79 p81
                    obtain ⟨f84, p85, t86⟩ := mf_38 hO68 hc79
                    have t87 := fI_of hc79 p85
                    have z88 := any_r x75
                    exact ih36 x75 _ _ _ hO68 (hu37.tr hu68) (by omega) (px38.s (by have q := px69; rw [show x59.toInt = 61 by omega] at q; exact q) (by omega)) px70 (by omega)
                  · have t89 := lt_no c73
                    refine ur_ldA rfl rfl ?_
                    refine ur_ldI rfl rfl ?_
                    refine ur_ldI rfl rfl ?_
                    obtain ⟨fs90, hc91⟩ := hO68.mod
                    obtain ⟨f92, p93, t94⟩ := mf_4 hO68 hc91
                    have t95 := fI_of hc91 p93
                    have t96 := fI_keep (k := 4) hO0 hO68 (hu37.tr hu68) rfl (by decide)
                    have t97 := fI_keep (k := 38) hO0 hO68 (hu37.tr hu68) rfl (by decide)
                    refine ur_inl rfl (rcv_of hc91) (Nat.le_of_ble_eq_true rfl) (Nat.le_of_ble_eq_true rfl) (sd_X12_passOf hO68 (hX0.un hO0 hO68 (hu37.tr hu68) (by decide)) _ (by show 0 ≤ x31.toInt ∧ x31.toInt ≤ 11; omega) _ (by show -60 ≤ x59.toInt ∧ x59.toInt ≤ 60; omega) px70 (by omega) (fun w98 h101 hr99 hO101 hv101 hp100 => ?_))
                    have hu101 := hv101
                    obtain ⟨x102, rfl, f103⟩ := hr99
                    show uRun _ (uCall Mt _) _ 51 (_, [(.inl x102)], _, _, _)
                    refine ur_svIk [some (.inr (.inr (some 69))), some (.inl a1), some (.inl a2), some (.inl x31), some (.inl x59), some (.inl x102)] rfl rfl ?_
                    refine ur_ldI rfl rfl ?_
                    refine ur_if1 rfl (fun c104 => ?_) (fun c104 => ?_)
                    · have t105 := lt_to c104
                      refine ur_incV (fun z => [some (.inr (.inr (some 69))), some (.inl a1), some (.inl a2), some (.inl x31), some (.inl z), some (.inl x102)]) rfl rfl (fun _ => rfl) (fun x106 e107 => ?_)
                      have z108 := any_r x59
                      have t109 := ti_add e107 (by omega) (by omega)
                      refine ur_go rfl ?_
                      obtain ⟨fs110, hc111⟩ := hO101.mod
                      obtain ⟨f112, p113, t114⟩ := mf_4 hO101 hc111
                      have t115 := fI_of hc111 p113
                      obtain ⟨f116, p117, t118⟩ := mf_38 hO101 hc111
                      have t119 := fI_of hc111 p117
                      have z120 := any_r x106
                      exact ih63 x106 _ _ hO101 (hu68.tr hu101) (by omega) (px69.s (by have q := f103.1; rw [gI_keep (a := 73) (kd := 0) (n := 12) hO0 (hu37.tr hu68) x31.toInt (by decide) rfl (by decide) rfl (by decide) (by decide), gI_keep (a := 72) (kd := 0) (n := 12) hO0 (hu37.tr hu68) x31.toInt (by decide) rfl (by decide) rfl (by decide) (by decide), show NMh h68 (gI h0 73 x31.toInt) = NMh h0 (gI h0 73 x31.toInt) from nxM_un hO0 hO68 (hu37.tr hu68) (by decide) (by decide) (by decide) _] at q; exact q) (fun q => by have k := q.1; omega) (by omega)) hp100 (by omega)
                    · have t121 := lt_no c104
                      refine ur_ldA rfl rfl ?_
                      refine ur_ldI rfl rfl ?_
                      refine ur_ldI rfl rfl ?_
                      refine ur_ldI rfl rfl ?_
                      refine ur_ldI rfl rfl ?_
                      obtain ⟨fs122, hc123⟩ := hO101.mod
                      obtain ⟨f124, p125, t126⟩ := mf_4 hO101 hc123
                      have t127 := fI_of hc123 p125
                      obtain ⟨f128, p129, t130⟩ := mf_38 hO101 hc123
                      have t131 := fI_of hc123 p129
                      have t132 := fI_keep (k := 4) hO0 hO101 (hu37.tr (hu68.tr hu101)) rfl (by decide)
                      have t133 := fI_keep (k := 38) hO0 hO101 (hu37.tr (hu68.tr hu101)) rfl (by decide)
                      refine ur_inl rfl (rcv_of hc123) (Nat.le_of_ble_eq_true rfl) (Nat.le_of_ble_eq_true rfl) (sd_X12_isAheadThenBehind hO101 (hX0.un hO0 hO101 (hu37.tr (hu68.tr hu101)) (by decide)) _ (by show 0 ≤ a1.toInt ∧ a1.toInt ≤ 149; omega) _ (by show 0 ≤ a2.toInt ∧ a2.toInt ≤ 149; omega) _ (by show 0 ≤ x31.toInt ∧ x31.toInt ≤ 11; omega) _ (by show 0 ≤ x102.toInt ∧ x102.toInt ≤ 999999; omega) hp100 (by omega) (by omega) (by omega) (pre1.keep (KN.un hO0 (hu37.tr (hu68.tr hu101)) (by decide) (by decide) (by decide) (by decide) (by decide)) (by decide)) pre2 (rxf_uw pre3 hO0 (hu37.tr (hu68.tr hu101)) (by decide)) (pre4.un hO0 hO101 (hu37.tr (hu68.tr hu101)) (by decide) (by decide)) (pre5.keep (KN.un hO0 (hu37.tr (hu68.tr hu101)) (by decide) (by decide) (by decide) (by decide) (by decide)) (by decide)) pre6 (pre7.un hO0 hO101 (hu37.tr (hu68.tr hu101)) (by decide) (by decide)) (fun w134 h136 hr135 hO136 hv136 => ?_))
                      have hu136 : un [80, 81] h101 h136 := hv136.mono (by decide)
                      obtain ⟨b137, rfl, t138, t139⟩ := hr135
                      show uRun _ (uCall Mt _) _ 67 (_, [(.inl (bi b137))], _, _, _)
                      refine ur_neB rfl (fun c140 => ?_) (fun c140 => ?_)
                      · have t141 := t138 c140
                        clear t138 t139
                        refine ur_push rfl ?_
                        refine ur_ldI rfl rfl ?_
                        refine ur_binV rfl (fun x142 e143 => ?_)
                        have t144 := ti_mulR e143 l_1000 (by omega) (by omega)
                        refine ur_push rfl ?_
                        refine ur_binV rfl (fun x145 e146 => ?_)
                        have z147 := any_r x142
                        have t148 := ti_add e146 (by omega) (by omega)
                        refine ur_ldI rfl rfl ?_
                        refine ur_binV rfl (fun x149 e150 => ?_)
                        have z151 := any_r x145
                        have z152 := any_r x59
                        have t153 := ti_add e150 (by omega) (by omega)
                        obtain ⟨fs154, hc155⟩ := hO136.mod
                        obtain ⟨f156, p157, t158⟩ := mf_4 hO136 hc155
                        have t159 := fI_of hc155 p157
                        obtain ⟨f160, p161, t162⟩ := mf_38 hO136 hc155
                        have t163 := fI_of hc155 p161
                        have t164 := fI_keep (k := 4) hO0 hO136 (hu37.tr (hu68.tr (hu101.tr hu136))) rfl (by decide)
                        have t165 := fI_keep (k := 38) hO0 hO136 (hu37.tr (hu68.tr (hu101.tr hu136))) rfl (by decide)
                        exact ur_ret rfl rfl (hQ _ _ ⟨_, rfl, ⟨fun q => absurd (by omega) q, fun _ => Or.inr ⟨x31.toInt, x59.toInt, by omega, by omega, by omega, ⟨x102.toInt, (by have q := f103.1; rw [gI_keep (a := 73) (kd := 0) (n := 12) hO0 (hu37.tr hu68) x31.toInt (by decide) rfl (by decide) rfl (by decide) (by decide), gI_keep (a := 72) (kd := 0) (n := 12) hO0 (hu37.tr hu68) x31.toInt (by decide) rfl (by decide) rfl (by decide) (by decide), show NMh h68 (gI h0 73 x31.toInt) = NMh h0 (gI h0 73 x31.toInt) from nxM_un hO0 hO68 (hu37.tr hu68) (by decide) (by decide) (by decide) _] at q; exact q), by omega, Or.inl (by have q := t141; rw [AHm.un hO0 (hu37.tr (hu68.tr hu101)) (rt_c (CEm_of hO0 hX0) (KWm.un hO0 (hu37.tr (hu68.tr hu101)) (by decide)) (by omega) (by omega)) (rt_c (CEm_of hO0 hX0) (KWm.un hO0 (hu37.tr (hu68.tr hu101)) (by decide)) (by omega) (by omega)) (by decide)] at q; exact q)⟩, px69, px38⟩⟩⟩ hO136 (hu37.tr (hu68.tr (hu101.tr hu136))) (hp100.un hO101 hO136 hv136 (by decide)))
                      · have t166 := t139 c140
                        clear t138 t139
                        refine ur_ldA rfl rfl ?_
                        refine ur_ldI rfl rfl ?_
                        refine ur_ldI rfl rfl ?_
                        refine ur_ldI rfl rfl ?_
                        refine ur_ldI rfl rfl ?_
                        obtain ⟨fs167, hc168⟩ := hO136.mod
                        obtain ⟨f169, p170, t171⟩ := mf_4 hO136 hc168
                        have t172 := fI_of hc168 p170
                        obtain ⟨f173, p174, t175⟩ := mf_38 hO136 hc168
                        have t176 := fI_of hc168 p174
                        have t177 := fI_keep (k := 4) hO0 hO136 (hu37.tr (hu68.tr (hu101.tr hu136))) rfl (by decide)
                        have t178 := fI_keep (k := 38) hO0 hO136 (hu37.tr (hu68.tr (hu101.tr hu136))) rfl (by decide)
                        refine ur_inl rfl (rcv_of hc168) (Nat.le_of_ble_eq_true rfl) (Nat.le_of_ble_eq_true rfl) (sd_X12_isAheadThenBehind hO136 (hX0.un hO0 hO136 (hu37.tr (hu68.tr (hu101.tr hu136))) (by decide)) _ (by show 0 ≤ a2.toInt ∧ a2.toInt ≤ 149; omega) _ (by show 0 ≤ a1.toInt ∧ a1.toInt ≤ 149; omega) _ (by show 0 ≤ x31.toInt ∧ x31.toInt ≤ 11; omega) _ (by show 0 ≤ x102.toInt ∧ x102.toInt ≤ 999999; omega) (hp100.un hO101 hO136 hv136 (by decide)) (by omega) (by omega) (by omega) (pre1.keep (KN.un hO0 (hu37.tr (hu68.tr (hu101.tr hu136))) (by decide) (by decide) (by decide) (by decide) (by decide)) (by decide)) pre2 (rxf_uw pre3 hO0 (hu37.tr (hu68.tr (hu101.tr hu136))) (by decide)) (pre4.un hO0 hO136 (hu37.tr (hu68.tr (hu101.tr hu136))) (by decide) (by decide)) (pre5.keep (KN.un hO0 (hu37.tr (hu68.tr (hu101.tr hu136))) (by decide) (by decide) (by decide) (by decide) (by decide)) (by decide)) pre6 (pre7.un hO0 hO136 (hu37.tr (hu68.tr (hu101.tr hu136))) (by decide) (by decide)) (fun w179 h181 hr180 hO181 hv181 => ?_))
                        have hu181 : un [80, 81] h136 h181 := hv181.mono (by decide)
                        obtain ⟨b182, rfl, t183, t184⟩ := hr180
                        show uRun _ (uCall Mt _) _ 79 (_, [(.inl (bi b182))], _, _, _)
                        refine ur_eqB rfl (fun c185 => ?_) (fun c185 => ?_)
                        · have t186 := t184 c185
                          clear t183 t184
                          refine ur_incV (fun z => [some (.inr (.inr (some 69))), some (.inl a1), some (.inl a2), some (.inl x31), some (.inl z), some (.inl x102)]) rfl rfl (fun _ => rfl) (fun x187 e188 => ?_)
                          have z189 := any_r x59
                          have t190 := ti_add e188 (by omega) (by omega)
                          refine ur_go rfl ?_
                          obtain ⟨fs191, hc192⟩ := hO181.mod
                          obtain ⟨f193, p194, t195⟩ := mf_4 hO181 hc192
                          have t196 := fI_of hc192 p194
                          obtain ⟨f197, p198, t199⟩ := mf_38 hO181 hc192
                          have t200 := fI_of hc192 p198
                          have z201 := any_r x187
                          exact ih63 x187 _ _ hO181 (hu68.tr (hu101.tr (hu136.tr hu181))) (by omega) (px69.s (by have q := f103.1; rw [gI_keep (a := 73) (kd := 0) (n := 12) hO0 (hu37.tr hu68) x31.toInt (by decide) rfl (by decide) rfl (by decide) (by decide), gI_keep (a := 72) (kd := 0) (n := 12) hO0 (hu37.tr hu68) x31.toInt (by decide) rfl (by decide) rfl (by decide) (by decide), show NMh h68 (gI h0 73 x31.toInt) = NMh h0 (gI h0 73 x31.toInt) from nxM_un hO0 hO68 (hu37.tr hu68) (by decide) (by decide) (by decide) _] at q; exact q) (fun q => q.2.elim (by have q := t166; rw [AHm.un hO0 (hu37.tr (hu68.tr hu101)) (rt_c (CEm_of hO0 hX0) (KWm.un hO0 (hu37.tr (hu68.tr hu101)) (by decide)) (by omega) (by omega)) (rt_c (CEm_of hO0 hX0) (KWm.un hO0 (hu37.tr (hu68.tr hu101)) (by decide)) (by omega) (by omega)) (by decide)] at q; exact q) (by have q := t186; rw [AHm.un hO0 (hu37.tr (hu68.tr (hu101.tr hu136))) (rt_c (CEm_of hO0 hX0) (KWm.un hO0 (hu37.tr (hu68.tr (hu101.tr hu136))) (by decide)) (by omega) (by omega)) (rt_c (CEm_of hO0 hX0) (KWm.un hO0 (hu37.tr (hu68.tr (hu101.tr hu136))) (by decide)) (by omega) (by omega)) (by decide)] at q; exact q)) (by omega)) ((hp100.un hO101 hO136 hv136 (by decide)).un hO136 hO181 hv181 (by decide)) (by omega)
                        · have t202 := t183 c185
                          clear t183 t184
                          refine ur_push rfl ?_
                          refine ur_ldI rfl rfl ?_
                          refine ur_binV rfl (fun x203 e204 => ?_)
                          have t205 := ti_mulR e204 l_1000 (by omega) (by omega)
                          refine ur_push rfl ?_
                          refine ur_binV rfl (fun x206 e207 => ?_)
                          have z208 := any_r x203
                          have t209 := ti_add e207 (by omega) (by omega)
                          refine ur_ldI rfl rfl ?_
                          refine ur_binV rfl (fun x210 e211 => ?_)
                          have z212 := any_r x206
                          have z213 := any_r x59
                          have t214 := ti_add e211 (by omega) (by omega)
                          obtain ⟨fs215, hc216⟩ := hO181.mod
                          obtain ⟨f217, p218, t219⟩ := mf_4 hO181 hc216
                          have t220 := fI_of hc216 p218
                          obtain ⟨f221, p222, t223⟩ := mf_38 hO181 hc216
                          have t224 := fI_of hc216 p222
                          have t225 := fI_keep (k := 4) hO0 hO181 (hu37.tr (hu68.tr (hu101.tr (hu136.tr hu181)))) rfl (by decide)
                          have t226 := fI_keep (k := 38) hO0 hO181 (hu37.tr (hu68.tr (hu101.tr (hu136.tr hu181)))) rfl (by decide)
                          exact ur_ret rfl rfl (hQ _ _ ⟨_, rfl, ⟨fun q => absurd (by omega) q, fun _ => Or.inr ⟨x31.toInt, x59.toInt, by omega, by omega, by omega, ⟨x102.toInt, (by have q := f103.1; rw [gI_keep (a := 73) (kd := 0) (n := 12) hO0 (hu37.tr hu68) x31.toInt (by decide) rfl (by decide) rfl (by decide) (by decide), gI_keep (a := 72) (kd := 0) (n := 12) hO0 (hu37.tr hu68) x31.toInt (by decide) rfl (by decide) rfl (by decide) (by decide), show NMh h68 (gI h0 73 x31.toInt) = NMh h0 (gI h0 73 x31.toInt) from nxM_un hO0 hO68 (hu37.tr hu68) (by decide) (by decide) (by decide) _] at q; exact q), by omega, Or.inr (by have q := t202; rw [AHm.un hO0 (hu37.tr (hu68.tr (hu101.tr hu136))) (rt_c (CEm_of hO0 hX0) (KWm.un hO0 (hu37.tr (hu68.tr (hu101.tr hu136))) (by decide)) (by omega) (by omega)) (rt_c (CEm_of hO0 hX0) (KWm.un hO0 (hu37.tr (hu68.tr (hu101.tr hu136))) (by decide)) (by omega) (by omega)) (by decide)] at q; exact q)⟩, px69, px38⟩⟩⟩ hO181 (hu37.tr (hu68.tr (hu101.tr (hu136.tr hu181)))) ((hp100.un hO101 hO136 hv136 (by decide)).un hO136 hO181 hv181 (by decide)))
              exact L61 _ (-60) (u33) _ hO37 un.rf (by omega) (LRq.z (by omega)) px39 (Nat.lt_succ_self _)
        exact L34 _ 0 (none) (none) _ hO0 un.rf (by omega) (NBq.z (by omega)) pre0 (Nat.lt_succ_self _)
      · have t227 := ne_no c29
        refine ur_push rfl ?_
        exact ur_ret rfl rfl (hQ _ _ ⟨_, rfl, ⟨fun _ => by omega, fun q => by exfalso; omega⟩⟩ hO0 un.rf pre0)
end SG6
