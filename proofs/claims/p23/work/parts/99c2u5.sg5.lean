/-! SIGHT: answers; printed by program but for its head -/
section SG5
/-! SIGHT: answers of where one stands, who saw it, what fits -/
/-- field f of one that stands t days of its pass ago -/
noncomputable def STV (ls : List (List (Int × Int) × List (Int × Int))) (nd w q b t d f x : Int) : Prop := (¬ (-120 ≤ d - t ∧ d - t ≤ 120) → x = -2) ∧ ((-120 ≤ d - t ∧ d - t ≤ 120) → (f = 0 → x = dgF nd w q (d - t)) ∧ (f = 1 → x = q + azI (d - t)) ∧ (f = 2 → x = apF (dgF nd w q (d - t) - d % 360)) ∧ (f = 3 → x = tlV ls nd w q b 0 (d - t) d))
theorem STV.u {ls : List (List (Int × Int) × List (Int × Int))} {nd w q b t d f x y : Int} (a : STV ls nd w q b t d f x) (c : STV ls nd w q b t d f y) (hf : 0 ≤ f ∧ f ≤ 3) : x = y := by
  by_cases p : -120 ≤ d - t ∧ d - t ≤ 120
  · obtain ⟨a0, a1, a2, a3⟩ := a.2 p
    obtain ⟨c0, c1, c2, c3⟩ := c.2 p
    rcases (show f = 0 ∨ f = 1 ∨ f = 2 ∨ f = 3 by omega) with k | k | k | k
    · rw [a0 k, c0 k]
    · rw [a1 k, c1 k]
    · rw [a2 k, c2 k]
    · rw [a3 k, c3 k]
  · rw [a.1 p, c.1 p]
/-- none of those from lo to ahead of k -/
def LKq (lo k : Int) (P : Int → Prop) : Prop := ∀ j, lo ≤ j → j < k → ¬ P j
theorem LKq.z {lo k : Int} {P : Int → Prop} (h : k ≤ lo) : LKq lo k P := fun j j0 j1 => by omega
theorem LKq.s {lo k k' : Int} {P : Int → Prop} (H : LKq lo k P) (n : ¬ P k) (e : k' = k + 1) : LKq lo k' P := fun j j0 j1 => by
  by_cases q : j < k
  · exact H j j0 q
  · obtain rfl : j = k := by omega
    exact n
/-- the first of those from lo to hi, or v -/
def LKf (lo hi v : Int) (P : Int → Prop) (x : Int) : Prop := (x = v ∧ LKq lo (hi + 1) P) ∨ ((lo ≤ x ∧ x ≤ hi) ∧ P x ∧ LKq lo x P)
/-- the same of returns, each with its pass -/
def LRq (lo k : Int) (R : Int → Int → Prop) (P : Int → Prop) : Prop := ∀ j, lo ≤ j → j < k → ∃ t, R j t ∧ ¬ (0 ≤ t ∧ P t)
theorem LRq.z {lo k : Int} {R : Int → Int → Prop} {P : Int → Prop} (h : k ≤ lo) : LRq lo k R P := fun j j0 j1 => by omega
theorem LRq.s {lo k k' t : Int} {R : Int → Int → Prop} {P : Int → Prop} (H : LRq lo k R P) (r : R k t) (n : ¬ (0 ≤ t ∧ P t)) (e : k' = k + 1) : LRq lo k' R P := fun j j0 j1 => by
  by_cases q : j < k
  · exact H j j0 q
  · obtain rfl : j = k := by omega
    exact ⟨t, r, n⟩
def LRf (v : Int) (R : Int → Int → Prop) (P : Int → Prop) (x : Int) : Prop := (x = v ∧ LRq (-60) 61 R P) ∨ ((-60 ≤ x ∧ x ≤ 60) ∧ (∃ t, R x t ∧ 0 ≤ t ∧ P t) ∧ LRq (-60) x R P)
/-- both find the same -/
theorem LKf.eq {lo hi v x y : Int} {P : Int → Prop} {R : Int → Int → Prop} {c : Int → Int} (a : LKf lo hi v (fun j => P (c j)) x) (b : LRf v R P y) (hl : -60 ≤ lo ∧ hi ≤ 60) (hR : ∀ j t, -60 ≤ j → j ≤ 60 → R j t → t = c j ∧ ((lo ≤ j ∧ j ≤ hi) → 0 ≤ t) ∧ (¬ (lo ≤ j ∧ j ≤ hi) → t = -1)) : x = y := by
  rcases a with ⟨a1, a2⟩ | ⟨a1, a2, a3⟩
  · rcases b with ⟨b1, -⟩ | ⟨b1, ⟨t, r, t0, p⟩, -⟩
    · omega
    · obtain ⟨e, -, f⟩ := hR y t b1.1 b1.2 r
      by_cases q : lo ≤ y ∧ y ≤ hi
      · exact absurd (show P (c y) by rw [← e]; exact p) (a2 y q.1 (by omega))
      · have := f q
        omega
  · rcases b with ⟨-, b2⟩ | ⟨b1, ⟨t, r, t0, p⟩, b3⟩
    · obtain ⟨t, r, n⟩ := b2 x (by omega) (by omega)
      obtain ⟨e, f, -⟩ := hR x t (by omega) (by omega) r
      exact absurd ⟨f a1, by rw [e]; exact a2⟩ n
    · obtain ⟨e, -, f⟩ := hR y t b1.1 b1.2 r
      have q : lo ≤ y ∧ y ≤ hi := Classical.byContradiction fun q => by
        have := f q
        omega
      by_cases l : y < x
      · exact absurd (show P (c y) by rw [← e]; exact p) (a3 y q.1 l)
      · by_cases m : x < y
        · obtain ⟨t', r', n⟩ := b3 x (by omega) m
          obtain ⟨e', f', -⟩ := hR x t' (by omega) (by omega) r'
          exact absurd ⟨f' a1, by rw [e']; exact a2⟩ n
        · omega
theorem LRf.v {v v' x y : Int} {R : Int → Int → Prop} {P : Int → Prop} (H : LRf v R P x) (e : (x = v ∧ y = v') ∨ (x ≠ v ∧ y = x)) (hv : ¬ (-60 ≤ v ∧ v ≤ 60)) : LRf v' R P y := by
  rcases H with ⟨a, b⟩ | ⟨a, b, c⟩
  · exact Or.inl ⟨by omega, b⟩
  · obtain rfl : y = x := by omega
    exact Or.inr ⟨a, b, c⟩
theorem LKf.c {lo hi v x : Int} {P P' : Int → Prop} (H : LKf lo hi v P x) (e : ∀ j, lo ≤ j → j ≤ hi → (P' j ↔ P j)) : LKf lo hi v P' x := by
  rcases H with ⟨a, b⟩ | ⟨a, b, c⟩
  · exact Or.inl ⟨a, fun j j0 j1 q => b j j0 j1 ((e j j0 (by omega)).mp q)⟩
  · exact Or.inr ⟨a, (e x a.1 a.2).mpr b, fun j j0 j1 q => c j j0 j1 ((e j j0 (by omega)).mp q)⟩
/- a word that fits: the class -/
theorem rtz_ro {h : aH} {z : Nat} (hO : OK h) (t : tg h z = (110, 13)) : rtz h z (ro h z) := by
  obtain ⟨-, nu, ki, pe, re, sl, y, m, dd, mo, cr, sp, mi, om, hc, -⟩ := hO.word t
  have e := fA_of (k := 9) hc
  cases cr with
  | none =>
    have q : rtz h z z := Or.inl ⟨e, rfl⟩
    rw [ro_of q]
    exact q
  | some r =>
    have q : rtz h z r := Or.inr e
    rw [ro_of q]
    exact q
theorem ro_un {W : List Nat} {h h' : aH} {z : Nat} (hO : OK h) (g : un W h h') (t : 114 ≤ z ∧ tg h z = (110, 13)) (w : 22009 ∉ W) : ro h' z = ro h z := by
  unfold ro
  rw [fA_un3 hO g t.1 t.2 (k := 9) (by decide) w]
def FCz (ls l1 : List (List (Int × Int) × List (Int × Int))) (h : aH) (w z : Nat) (t : Int) (W : Int → Prop) (y : Int) : Prop := FTD (fO h (ro h w) 10) (VC h (ro h w)) (fO h (ro h w) 4) (fun d => canP ls (fO h z 2) (fO h z 4) (fO h z 3) (fO h z 5) (fO h w 2) t d) (fun d => asP l1 (fO h w 1) (fO h w 8) (fO h w 2) (fO h z 2) (fO h z 4) (fO h z 3) (fO h z 5) (d - t) d) W (fO h w 1) y
theorem FCz.of {ls l1 : List (List (Int × Int) × List (Int × Int))} {h : aH} {w z r : Nat} {t : Int} {W : Int → Prop} {y : Int} (q : rtz h w r) (H : FTD (fO h r 10) (VC h r) (fO h r 4) (fun d => canP ls (fO h z 2) (fO h z 4) (fO h z 3) (fO h z 5) (fO h w 2) t d) (fun d => asP l1 (fO h w 1) (fO h w 8) (fO h w 2) (fO h z 2) (fO h z 4) (fO h z 3) (fO h z 5) (d - t) d) W (fO h w 1) y) : FCz ls l1 h w z t W y := by
  unfold FCz
  rw [ro_of q]
  exact H
theorem FCz.u {ls l1 : List (List (Int × Int) × List (Int × Int))} {h : aH} {w z : Nat} {t : Int} {W : Int → Prop} {x y : Int} (a : FCz ls l1 h w z t W x) (b : FCz ls l1 h w z t W y) : x = y := by
  unfold FCz at a b
  exact a.u b
theorem FCz.un {ls l1 : List (List (Int × Int) × List (Int × Int))} {V : List Nat} {h h' : aH} {w z : Nat} {t : Int} {W : Int → Prop} {y : Int} (H : FCz ls l1 h' w z t W y) (hO : OK h) (g : un V h h') (tw : 114 ≤ w ∧ tg h w = (110, 13)) (tz : 114 ≤ z ∧ tg h z = (102, 14)) (v : ∀ k ∈ [21202, 21203, 21204, 21205, 22001, 22002, 22004, 22008, 22009, 22010, 22011, 22012], k ∉ V) : FCz ls l1 h w z t W y := by
  have rr := rtz_ok hO tw (rtz_ro hO tw.2)
  unfold FCz at H ⊢
  rw [ro_un hO g tw (v _ (by decide)), fO_wu hO g rr (k := 10) (by decide) (v _ (by decide)), fO_wu hO g rr (k := 4) (by decide) (v _ (by decide)), VC_un hO g rr ⟨v _ (by decide), v _ (by decide)⟩, fO_wu hO g tw (k := 1) (by decide) (v _ (by decide)), fO_wu hO g tw (k := 2) (by decide) (v _ (by decide)), fO_wu hO g tw (k := 8) (by decide) (v _ (by decide)), fO_eA (fC_un hO g tz.1 tz.2 (k := 2) (by decide) (v _ (by decide))), fO_eA (fC_un hO g tz.1 tz.2 (k := 4) (by decide) (v _ (by decide))), fO_eA (fC_un hO g tz.1 tz.2 (k := 3) (by decide) (v _ (by decide))), fO_eA (fC_un hO g tz.1 tz.2 (k := 5) (by decide) (v _ (by decide)))] at H
  exact H
/-- it fits a return with that pass -/
def FWz (ls l1 : List (List (Int × Int) × List (Int × Int))) (h : aH) (w z : Nat) (t : Int) : Prop := ∃ y, FCz ls l1 h w z t (fun d => -120 ≤ d - t ∧ d - t ≤ 120) y ∧ y ≠ -1
/- the reference -/
theorem VM_w {W : List Nat} {h h' : aH} (hO : OK h) (g : un W h h') (w : ∀ k ∈ [90, 92, 97, 98, 99, 100, 101], k ∉ W) {M : Nat → List (List (Int × Int) × List (Int × Int))} {r : Int} : VM h' M r = VM h M r := funext fun i => by
  have k : ∀ a n : Nat, a < 114 → T0.getD a (999, 0) = (0, n) → scA a = false → (0, n) ∉ meM → a ∉ W → arI h' a = arI h a := fun a n h1 h2 h3 h4 h5 => arI_keep (a := a) hO g h1 h2 (by decide) h3 h4 h5
  have e : ∀ a n : Nat, a < 114 → T0.getD a (999, 0) = (0, n) → scA a = false → (0, n) ∉ meM → a ∉ W → ∀ j, gI h' a j = gI h a j := fun a n h1 h2 h3 h4 h5 j => by unfold gI; rw [k a n h1 h2 h3 h4 h5]
  unfold VM FR
  rw [e 97 150 (by decide) rfl rfl (by decide) (w _ (by decide)), gV_e (k 98 150 (by decide) rfl rfl (by decide) (w _ (by decide))), gV_e (k 99 150 (by decide) rfl rfl (by decide) (w _ (by decide))), gV_e (k 100 150 (by decide) rfl rfl (by decide) (w _ (by decide))), e 101 150 (by decide) rfl rfl (by decide) (w _ (by decide)), gV_e (k 90 20 (by decide) rfl rfl (by decide) (w _ (by decide))), gV_e (k 92 20 (by decide) rfl rfl (by decide) (w _ (by decide)))]
theorem nM_w {W : List Nat} {h h' : aH} (hO : OK h) (g : un W h h') (w : 91 ∉ W ∧ 101 ∉ W) {r : Int} : nM h' r = nM h r := by
  unfold nM
  rw [gI_keep (a := 101) (kd := 0) (n := 150) hO g _ (by decide) rfl (by decide) rfl (by decide) w.2, gI_keep (a := 91) (kd := 0) (n := 20) hO g _ (by decide) rfl (by decide) rfl (by decide) w.1]
def FMz (ls l1 : List (List (Int × Int) × List (Int × Int))) (h : aH) (M : Nat → List (List (Int × Int) × List (Int × Int))) (w c t mv : Int) (W : Int → Prop) (y : Int) : Prop := FTD (nM h (rt h w)) (fun i => VM h M (rt h w) i + mv) (gI h 102 (rt h w)) (fun d => canP ls (gI h 74 c) (gI h 76 c) (gI h 75 c) (gI h 77 c) (gI h 97 w) t d) (fun d => asP l1 (gI h 96 w) (gI h 103 w) (gI h 97 w) (gI h 74 c) (gI h 76 c) (gI h 75 c) (gI h 77 c) (d - t) d) W (gI h 96 w) y
theorem FMz.u {ls l1 : List (List (Int × Int) × List (Int × Int))} {h : aH} {M : Nat → List (List (Int × Int) × List (Int × Int))} {w c t mv : Int} {W : Int → Prop} {x y : Int} (a : FMz ls l1 h M w c t mv W x) (b : FMz ls l1 h M w c t mv W y) : x = y := by
  unfold FMz at a b
  exact a.u b
theorem FMz.un {ls l1 : List (List (Int × Int) × List (Int × Int))} {V : List Nat} {h h' : aH} {M : Nat → List (List (Int × Int) × List (Int × Int))} {w c t mv : Int} {W : Int → Prop} {y : Int} (H : FMz ls l1 h' M w c t mv W y) (hO : OK h) (g : un V h h') (e : rt h' w = rt h w) (v : ∀ k ∈ [74, 75, 76, 77, 90, 91, 92, 96, 97, 98, 99, 100, 101, 102, 103], k ∉ V) : FMz ls l1 h M w c t mv W y := by
  have k : ∀ a n : Nat, a ∈ [74, 75, 76, 77, 90, 91, 92, 96, 97, 98, 99, 100, 101, 102, 103] → a < 114 → T0.getD a (999, 0) = (0, n) → scA a = false → (0, n) ∉ meM → ∀ j, gI h' a j = gI h a j := fun a n h0 h1 h2 h3 h4 j => gI_keep (a := a) (kd := 0) (n := n) hO g j h1 h2 (by decide) h3 h4 (v a h0)
  unfold FMz at H ⊢
  rw [e, nM_w hO g ⟨v _ (by decide), v _ (by decide)⟩, VM_w hO g (fun q hq => v q (by revert hq; revert q; decide)), k 102 150 (by decide) (by decide) rfl rfl (by decide), k 74 12 (by decide) (by decide) rfl rfl (by decide), k 76 12 (by decide) (by decide) rfl rfl (by decide), k 75 12 (by decide) (by decide) rfl rfl (by decide), k 77 12 (by decide) (by decide) rfl rfl (by decide), k 97 150 (by decide) (by decide) rfl rfl (by decide), k 96 150 (by decide) (by decide) rfl rfl (by decide), k 103 150 (by decide) (by decide) rfl rfl (by decide)] at H
  exact H
def FWm (ls l1 : List (List (Int × Int) × List (Int × Int))) (h : aH) (M : Nat → List (List (Int × Int) × List (Int × Int))) (w c mv t : Int) : Prop := ∃ y, FMz ls l1 h M w c t mv (fun d => 0 ≤ d) y ∧ y ≠ -1
theorem rxf_uw {W : List Nat} {h h' : aH} {M : Nat → List (List (Int × Int) × List (Int × Int))} (H : RXF h M) (hO : OK h) (g : un W h h') (w : ∀ k ∈ [82, 83, 84, 85, 86, 87, 88], k ∉ W) : RXF h' M := fun n hn => ⟨(H n hn).1.keep (KN.un hO g (w _ (by decide)) (w _ (by decide)) (w _ (by decide)) (w _ (by decide)) (w _ (by decide))) (by omega), (H n hn).2⟩
set_option maxRecDepth 20000 in
set_option maxHeartbeats 4000000 in
theorem sd_X11_stands {d kc ks : Nat} {h0 : aH} {Q : Option aV → aH → Prop} {ls : List (List (Int × Int) × List (Int × Int))} {l1 : List (List (Int × Int) × List (Int × Int))} (hO0 : OK h0) (a1 : Int32) (a2 : Int32) (a3 : Int32) (a4 : Int32) (pre0 : SKc h0) (pre1 : SGc ls h0) (pre2 : txC h0 11 = cfl 0 l1) (pre3 : ∀ l ∈ l1, lnG l) (hQ : ∀ r h', (∃ x : Int32, r = some (.inl x) ∧ ((¬ ((0 ≤ a1.toInt ∧ a1.toInt < fO h0 1 4) ∧ (-60 ≤ a2.toInt ∧ a2.toInt ≤ 60) ∧ (0 ≤ a3.toInt ∧ a3.toInt ≤ 999999) ∧ (0 ≤ a4.toInt ∧ a4.toInt ≤ 3)) → x.toInt = -1) ∧ (((0 ≤ a1.toInt ∧ a1.toInt < fO h0 1 4) ∧ (-60 ≤ a2.toInt ∧ a2.toInt ≤ 60) ∧ (0 ≤ a3.toInt ∧ a3.toInt ≤ 999999) ∧ (0 ≤ a4.toInt ∧ a4.toInt ≤ 3)) → ∃ z, cz h0 a1.toInt z ∧ (¬ (fO h0 z 8 ≤ a2.toInt ∧ a2.toInt ≤ fO h0 z 9) → x.toInt = -2) ∧ ((fO h0 z 8 ≤ a2.toInt ∧ a2.toInt ≤ fO h0 z 9) → STV l1 (fO h0 z 2) (fO h0 z 4) (fO h0 z 3) (fO h0 z 5) (cf h0 z a2.toInt) a3.toInt a4.toInt x.toInt)))) → OK h' → un [] h0 h' → (SGc ls h') → Q r h') : uCall Mt (d + 5) 128 [(.inr (.inr (some 0))), (.inl a1), (.inl a2), (.inl a3), (.inl a4)] h0 kc ks Q := by
  have l_m120 : ((-120) : Int32).toInt = -120 := by decide
  have l_m60 : ((-60) : Int32).toInt = -60 := by decide
  have l_m2 : ((-2) : Int32).toInt = -2 := by decide
  have l_m1 : ((-1) : Int32).toInt = -1 := by decide
  have l_0 : ((0) : Int32).toInt = 0 := by decide
  have l_3 : ((3) : Int32).toInt = 3 := by decide
  have l_60 : ((60) : Int32).toInt = 60 := by decide
  have l_120 : ((120) : Int32).toInt = 120 := by decide
  have l_999999 : ((999999) : Int32).toInt = 999999 := by decide
  refine uc_ink [some (.inr (.inr (some 0))), some (.inl a1), some (.inl a2), some (.inl a3), some (.inl a4), none, none] mt_128 (Nat.le_of_ble_eq_true rfl) rfl ?_
  obtain ⟨f2, f3, hc1, k4⟩ := ok_1 hO0
  have t5 := fO_of (k := 4) hc1 rfl
  refine ur_ldA rfl rfl ?_
  obtain ⟨hc6, k7⟩ := ok_0 hO0
  refine ur_get rfl hc6 rfl ?_
  refine ur_ldI rfl rfl ?_
  refine ur_inl rfl (rcv_of hc1) (Nat.le_of_ble_eq_true rfl) (Nat.le_of_ble_eq_true rfl) (sd_X6_cometAt hO0 _ pre0 (fun w8 hr9 => ?_))
  obtain ⟨o10, rfl, k11, t12, t13⟩ := hr9
  show uRun _ (uCall Mt _) _ 8 (_, [(.inr (.inr o10))], _, _, _)
  refine ur_svAk [some (.inr (.inr (some 0))), some (.inl a1), some (.inl a2), some (.inl a3), some (.inl a4), some (.inr (.inr o10)), none] rfl rfl ?_
  refine ur_ldA rfl rfl ?_
  cases o10 with
  | none =>
    refine ur_nulN rfl ?_
    have t15 := t12 rfl
    refine ur_push rfl ?_
    exact ur_ret rfl rfl (hQ _ _ ⟨_, rfl, ⟨fun _ => by omega, fun q => by exfalso; omega⟩⟩ hO0 un.rf pre1)
  | some r14 =>
    refine ur_nulS rfl ?_
    have k16 := k11 _ rfl
    have t17 := t13 _ rfl
    refine ur_ldI rfl rfl ?_
    refine ur_callv rfl rfl (Nat.le_of_ble_eq_true rfl) (Nat.le_of_ble_eq_true rfl) rfl (sp_isRet _ _) ?_
    refine ur_eqB rfl (fun c20 => ?_) (fun c20 => ?_)
    · have t21 := wi_noL c20 l_m60 l_60
      refine ur_push rfl ?_
      exact ur_ret rfl rfl (hQ _ _ ⟨_, rfl, ⟨fun _ => by omega, fun q => by exfalso; omega⟩⟩ hO0 un.rf pre1)
    · have t22 := wi_toL c20 l_m60 l_60
      refine ur_ldI rfl rfl ?_
      refine ur_callv rfl rfl (Nat.le_of_ble_eq_true rfl) (Nat.le_of_ble_eq_true rfl) rfl (sp_isDay _ _) ?_
      refine ur_eqB rfl (fun c25 => ?_) (fun c25 => ?_)
      · have t26 := wi_noL c25 l_0 l_999999
        refine ur_push rfl ?_
        exact ur_ret rfl rfl (hQ _ _ ⟨_, rfl, ⟨fun _ => by omega, fun q => by exfalso; omega⟩⟩ hO0 un.rf pre1)
      · have t27 := wi_toL c25 l_0 l_999999
        refine ur_ldI rfl rfl ?_
        refine ur_push rfl ?_
        refine ur_push rfl ?_
        refine ur_callv rfl rfl (Nat.le_of_ble_eq_true rfl) (Nat.le_of_ble_eq_true rfl) rfl (sp_within _ _ _ _ _) ?_
        refine ur_neB rfl (fun c30 => ?_) (fun c30 => ?_)
        · have t31 := wi_toL c30 l_0 l_3
          obtain ⟨g52, f33, f34, f35, f36, f37, f38, f39, f40, f41, f42, q43, q44, o45, q46, hc32, k47, k48, k49, k50, k51⟩ := hO0.comet k16.2
          have t53 := fO_of (k := 8) hc32 rfl
          have t54 := fO_of (k := 9) hc32 rfl
          have cd55 := (pre1.1 a1.toInt r14 t17.1.1 t17.1.2 t17.2).1
          refine ur_ldA rfl rfl ?_
          refine ur_ldI rfl rfl ?_
          refine ur_inl rfl (rcv_of hc32) (Nat.le_of_ble_eq_true rfl) (Nat.le_of_ble_eq_true rfl) (sd_X2_hasReturn hO0 g52 k16.2 _ (fun w56 hr57 => ?_))
          obtain ⟨b58, rfl, t59, t60⟩ := hr57
          show uRun _ (uCall Mt _) _ 47 (_, [(.inl (bi b58))], _, _, _)
          refine ur_neB rfl (fun c61 => ?_) (fun c61 => ?_)
          · have t62 := t59 c61
            clear t59 t60
            refine ur_ldI rfl rfl ?_
            refine ur_ldA rfl rfl ?_
            refine ur_ldI rfl rfl ?_
            refine ur_inl rfl (rcv_of hc32) (Nat.le_of_ble_eq_true rfl) (Nat.le_of_ble_eq_true rfl) (sd_X2_passOf hO0 g52 k16.2 _ (by show -60 ≤ a2.toInt ∧ a2.toInt ≤ 60; omega) (fun w63 hr64 => ?_))
            obtain ⟨x65, rfl, f66⟩ := hr64
            show uRun _ (uCall Mt _) _ 60 (_, [(.inl x65), (.inl a3)], _, _, _)
            have tt67 : x65.toInt = cf h0 r14 a2.toInt := by unfold cf; rw [if_pos (by omega)]; exact f66
            have tt68 := pre0.rg t17.1 t17.2 (k := a2.toInt) (by omega)
            refine ur_binV rfl (fun x69 e70 => ?_)
            have z71 := any_r a3
            have z72 := any_r x65
            have t73 := ti_sub e70 (by omega) (by omega)
            refine ur_svIk [some (.inr (.inr (some 0))), some (.inl a1), some (.inl a2), some (.inl a3), some (.inl a4), some (.inr (.inr (some r14))), some (.inl x69)] rfl rfl ?_
            refine ur_ldI rfl rfl ?_
            refine ur_callv rfl rfl (Nat.le_of_ble_eq_true rfl) (Nat.le_of_ble_eq_true rfl) rfl (sp_isFar _ _) ?_
            refine ur_eqB rfl (fun c76 => ?_) (fun c76 => ?_)
            · have t77 := wi_toL (bnot_t c76) l_m120 l_120
              refine ur_ldI rfl rfl ?_
              rcases (show (a4.toInt < 0 ∨ 2 < a4.toInt) ∨ a4.toInt = 0 ∨ a4.toInt = 1 ∨ a4.toInt = 2 by omega) with t78 | t78 | t78 | t78
              · refine ur_tabO rfl (by show a4.toInt < 0 ∨ 0 + 3 ≤ a4.toInt; omega) ?_
                refine ur_ldA rfl rfl ?_
                refine ur_get rfl hc6 rfl ?_
                refine ur_ldA rfl rfl ?_
                refine ur_push rfl ?_
                refine ur_ldI rfl rfl ?_
                refine ur_ldI rfl rfl ?_
                obtain ⟨f80, hc79, k81⟩ := ok_8 hO0
                refine ur_inl rfl (rcv_of hc79) (Nat.le_of_ble_eq_true rfl) (Nat.le_of_ble_eq_true rfl) (sd_X5_tailOf hO0 g52 k16.2 _ (by show 0 ≤ (0 : Int32).toInt ∧ (0 : Int32).toInt ≤ 8; omega) _ (by show -120 ≤ x69.toInt ∧ x69.toInt ≤ 120; omega) _ (by show 0 ≤ a3.toInt ∧ a3.toInt ≤ 999999; omega) cd55 pre2 pre3 (fun w82 h84 hr83 hO84 hv84 => ?_))
                have hu84 := hv84
                obtain ⟨x85, rfl, f86⟩ := hr83
                show uRun _ (uCall Mt _) _ 142 (_, [(.inl x85)], _, _, _)
                have t87 := fO_of (k := 4) (hv84.ko (n := 5) hc1 rfl (wid_f (by decide)) (by decide)) rfl
                exact ur_ret rfl rfl (hQ _ _ ⟨_, rfl, ⟨fun q => absurd (by omega) q, fun _ => ⟨r14, t17.2, fun q => absurd (by omega) q, fun _ => ⟨fun q => by exfalso; omega, fun _ => ⟨fun q => by exfalso; omega, fun q => by exfalso; omega, fun q => by exfalso; omega, fun _ => (by have q := f86.1; rw [l_0] at q; rw [show a3.toInt - cf h0 r14 a2.toInt = x69.toInt by omega]; exact q)⟩⟩⟩⟩⟩ hO84 hu84 (pre1.uk hO0 hO84 hv84 (by decide)))
              · refine ur_tabI rfl (by omega) (by rw [t78]; rfl) ?_
                refine ur_ldA rfl rfl ?_
                refine ur_ldI rfl rfl ?_
                refine ur_inl rfl (rcv_of hc32) (Nat.le_of_ble_eq_true rfl) (Nat.le_of_ble_eq_true rfl) (sd_X2_degreeAt hO0 g52 k16.2 _ (by show -120 ≤ x69.toInt ∧ x69.toInt ≤ 120; omega) cd55 (fun w88 hr89 => ?_))
                obtain ⟨x90, rfl, f91⟩ := hr89
                show uRun _ (uCall Mt _) _ 111 (_, [(.inl x90)], _, _, _)
                exact ur_ret rfl rfl (hQ _ _ ⟨_, rfl, ⟨fun q => absurd (by omega) q, fun _ => ⟨r14, t17.2, fun q => absurd (by omega) q, fun _ => ⟨fun q => by exfalso; omega, fun _ => ⟨fun _ => (by have q := f91.1; rw [show a3.toInt - cf h0 r14 a2.toInt = x69.toInt by omega]; exact q), fun q => by exfalso; omega, fun q => by exfalso; omega, fun q => by exfalso; omega⟩⟩⟩⟩⟩ hO0 un.rf pre1)
              · refine ur_tabI rfl (by omega) (by rw [t78]; rfl) ?_
                refine ur_ldA rfl rfl ?_
                refine ur_ldI rfl rfl ?_
                refine ur_inl rfl (rcv_of hc32) (Nat.le_of_ble_eq_true rfl) (Nat.le_of_ble_eq_true rfl) (sd_X2_distanceAt hO0 g52 k16.2 _ (by show -120 ≤ x69.toInt ∧ x69.toInt ≤ 120; omega) cd55 (fun w92 hr93 => ?_))
                obtain ⟨x94, rfl, f95⟩ := hr93
                show uRun _ (uCall Mt _) _ 119 (_, [(.inl x94)], _, _, _)
                exact ur_ret rfl rfl (hQ _ _ ⟨_, rfl, ⟨fun q => absurd (by omega) q, fun _ => ⟨r14, t17.2, fun q => absurd (by omega) q, fun _ => ⟨fun q => by exfalso; omega, fun _ => ⟨fun q => by exfalso; omega, fun _ => (by have q := f95.1; rw [show a3.toInt - cf h0 r14 a2.toInt = x69.toInt by omega]; exact q), fun q => by exfalso; omega, fun q => by exfalso; omega⟩⟩⟩⟩⟩ hO0 un.rf pre1)
              · refine ur_tabI rfl (by omega) (by rw [t78]; rfl) ?_
                refine ur_ldA rfl rfl ?_
                refine ur_ldI rfl rfl ?_
                refine ur_ldI rfl rfl ?_
                refine ur_inl rfl (rcv_of hc32) (Nat.le_of_ble_eq_true rfl) (Nat.le_of_ble_eq_true rfl) (sd_X2_apartOfSun hO0 g52 k16.2 _ (by show -120 ≤ x69.toInt ∧ x69.toInt ≤ 120; omega) _ (by show 0 ≤ a3.toInt ∧ a3.toInt ≤ 999999; omega) cd55 (fun w96 hr97 => ?_))
                obtain ⟨x98, rfl, f99⟩ := hr97
                show uRun _ (uCall Mt _) _ 128 (_, [(.inl x98)], _, _, _)
                exact ur_ret rfl rfl (hQ _ _ ⟨_, rfl, ⟨fun q => absurd (by omega) q, fun _ => ⟨r14, t17.2, fun q => absurd (by omega) q, fun _ => ⟨fun q => by exfalso; omega, fun _ => ⟨fun q => by exfalso; omega, fun q => by exfalso; omega, fun _ => (by have q := f99.1; rw [show a3.toInt - cf h0 r14 a2.toInt = x69.toInt by omega]; exact q), fun q => by exfalso; omega⟩⟩⟩⟩⟩ hO0 un.rf pre1)
            · have t100 := wi_noL (bnot_f c76) l_m120 l_120
              refine ur_push rfl ?_
              exact ur_ret rfl rfl (hQ _ _ ⟨_, rfl, ⟨fun q => absurd (by omega) q, fun _ => ⟨r14, t17.2, fun q => absurd (by omega) q, fun _ => ⟨fun _ => by omega, fun q => by exfalso; omega⟩⟩⟩⟩ hO0 un.rf pre1)
          · have t101 := t60 c61
            clear t59 t60
            refine ur_push rfl ?_
            exact ur_ret rfl rfl (hQ _ _ ⟨_, rfl, ⟨fun q => absurd (by omega) q, fun _ => ⟨r14, t17.2, fun _ => by omega, fun q => by exfalso; omega⟩⟩⟩ hO0 un.rf pre1)
        · have t102 := wi_noL c30 l_0 l_3
          refine ur_push rfl ?_
          exact ur_ret rfl rfl (hQ _ _ ⟨_, rfl, ⟨fun _ => by omega, fun q => by exfalso; omega⟩⟩ hO0 un.rf pre1)

set_option maxRecDepth 20000 in
set_option maxHeartbeats 4000000 in
theorem se_X12_stands {d kc ks : Nat} {h0 : aH} {Q : Option aV → aH → Prop} {l1 : List (List (Int × Int) × List (Int × Int))} (hO0 : OK h0) (hX0 : SX h0) (a1 : Int32) (a2 : Int32) (a3 : Int32) (a4 : Int32) (pre0 : SKm h0) (pre1 : RLn h0 1 l1) (pre2 : ∀ l ∈ l1, lnG l) (hQ : ∀ r h', (∃ x : Int32, r = some (.inl x) ∧ ((¬ ((0 ≤ a1.toInt ∧ a1.toInt < fI h0 4) ∧ (-60 ≤ a2.toInt ∧ a2.toInt ≤ 60) ∧ (0 ≤ a3.toInt ∧ a3.toInt ≤ 999999) ∧ (0 ≤ a4.toInt ∧ a4.toInt ≤ 3)) → x.toInt = -1) ∧ (((0 ≤ a1.toInt ∧ a1.toInt < fI h0 4) ∧ (-60 ≤ a2.toInt ∧ a2.toInt ≤ 60) ∧ (0 ≤ a3.toInt ∧ a3.toInt ≤ 999999) ∧ (0 ≤ a4.toInt ∧ a4.toInt ≤ 3)) → ∃ t, retV (NMh h0 (gI h0 73 a1.toInt)) (gI h0 73 a1.toInt) (gI h0 72 a1.toInt) a2.toInt t ∧ (t < 0 → x.toInt = -2) ∧ (0 ≤ t → STV l1 (gI h0 74 a1.toInt) (gI h0 76 a1.toInt) (gI h0 75 a1.toInt) (gI h0 77 a1.toInt) t a3.toInt a4.toInt x.toInt)))) → OK h' → un [80, 81] h0 h' → (SKm h') → Q r h') : uCall Mt (d + 6) 209 [(.inr (.inr (some 69))), (.inl a1), (.inl a2), (.inl a3), (.inl a4)] h0 kc ks Q := by
  have l_m60 : ((-60) : Int32).toInt = -60 := by decide
  have l_m2 : ((-2) : Int32).toInt = -2 := by decide
  have l_m1 : ((-1) : Int32).toInt = -1 := by decide
  have l_0 : ((0) : Int32).toInt = 0 := by decide
  have l_1 : ((1) : Int32).toInt = 1 := by decide
  have l_2 : ((2) : Int32).toInt = 2 := by decide
  have l_3 : ((3) : Int32).toInt = 3 := by decide
  have l_60 : ((60) : Int32).toInt = 60 := by decide
  have l_999999 : ((999999) : Int32).toInt = 999999 := by decide
  refine uc_ink [some (.inr (.inr (some 69))), some (.inl a1), some (.inl a2), some (.inl a3), some (.inl a4), none] mt_209 (Nat.le_of_ble_eq_true rfl) rfl ?_
  obtain ⟨fs1, hc2⟩ := hO0.mod
  obtain ⟨f3, p4, t5⟩ := mf_4 hO0 hc2
  have t6 := fI_of hc2 p4
  obtain ⟨f7, p8⟩ := mf_15 hO0 hc2
  have t9 := fI_of hc2 p8
  obtain ⟨f10, p11⟩ := mf_16 hO0 hc2
  have t12 := fI_of hc2 p11
  obtain ⟨f13, p14⟩ := mf_17 hO0 hc2
  have t15 := fI_of hc2 p14
  refine ur_ldA rfl rfl ?_
  refine ur_ldI rfl rfl ?_
  refine ur_inl rfl (rcv_of hc2) (Nat.le_of_ble_eq_true rfl) (Nat.le_of_ble_eq_true rfl) (sd_X12_isComet hO0 _ (fun w16 hr17 => ?_))
  obtain ⟨b18, rfl, t19, t20⟩ := hr17
  show uRun _ (uCall Mt _) _ 5 (_, [(.inl (bi b18))], _, _, _)
  refine ur_eqB rfl (fun c21 => ?_) (fun c21 => ?_)
  · have t22 := t20 c21
    clear t19 t20
    refine ur_push rfl ?_
    exact ur_ret rfl rfl (hQ _ _ ⟨_, rfl, ⟨fun _ => by omega, fun q => by exfalso; omega⟩⟩ hO0 un.rf pre0)
  · have t23 := t19 c21
    clear t19 t20
    refine ur_ldI rfl rfl ?_
    refine ur_callv rfl rfl (Nat.le_of_ble_eq_true rfl) (Nat.le_of_ble_eq_true rfl) rfl (sq_isRet _ _) ?_
    refine ur_eqB rfl (fun c26 => ?_) (fun c26 => ?_)
    · have t27 := wi_noL c26 l_m60 l_60
      refine ur_push rfl ?_
      exact ur_ret rfl rfl (hQ _ _ ⟨_, rfl, ⟨fun _ => by omega, fun q => by exfalso; omega⟩⟩ hO0 un.rf pre0)
    · have t28 := wi_toL c26 l_m60 l_60
      refine ur_ldI rfl rfl ?_
      refine ur_callv rfl rfl (Nat.le_of_ble_eq_true rfl) (Nat.le_of_ble_eq_true rfl) rfl (sq_isDay _ _) ?_
      refine ur_eqB rfl (fun c31 => ?_) (fun c31 => ?_)
      · have t32 := wi_noL c31 l_0 l_999999
        refine ur_push rfl ?_
        exact ur_ret rfl rfl (hQ _ _ ⟨_, rfl, ⟨fun _ => by omega, fun q => by exfalso; omega⟩⟩ hO0 un.rf pre0)
      · have t33 := wi_toL c31 l_0 l_999999
        refine ur_ldI rfl rfl ?_
        refine ur_push rfl ?_
        refine ur_push rfl ?_
        refine ur_callv rfl rfl (Nat.le_of_ble_eq_true rfl) (Nat.le_of_ble_eq_true rfl) rfl (sp_in _ _ _ _ _) ?_
        refine ur_neB rfl (fun c36 => ?_) (fun c36 => ?_)
        · have t37 := wi_toL c36 l_0 l_3
          refine ur_ldA rfl rfl ?_
          refine ur_ldI rfl rfl ?_
          refine ur_ldI rfl rfl ?_
          refine ur_inl rfl (rcv_of hc2) (Nat.le_of_ble_eq_true rfl) (Nat.le_of_ble_eq_true rfl) (sd_X12_passOf hO0 hX0 _ (by show 0 ≤ a1.toInt ∧ a1.toInt ≤ 11; omega) _ (by show -60 ≤ a2.toInt ∧ a2.toInt ≤ 60; omega) pre0 (by omega) (fun w38 h41 hr39 hO41 hv41 hp40 => ?_))
          have hu41 := hv41
          obtain ⟨x42, rfl, f43⟩ := hr39
          show uRun _ (uCall Mt _) _ 40 (_, [(.inl x42)], _, _, _)
          refine ur_svIk [some (.inr (.inr (some 69))), some (.inl a1), some (.inl a2), some (.inl a3), some (.inl a4), some (.inl x42)] rfl rfl ?_
          refine ur_ldI rfl rfl ?_
          refine ur_if1 rfl (fun c44 => ?_) (fun c44 => ?_)
          · have t45 := lt_to c44
            refine ur_push rfl ?_
            obtain ⟨fs46, hc47⟩ := hO41.mod
            obtain ⟨f48, p49, t50⟩ := mf_4 hO41 hc47
            have t51 := fI_of hc47 p49
            obtain ⟨f52, p53⟩ := mf_15 hO41 hc47
            have t54 := fI_of hc47 p53
            obtain ⟨f55, p56⟩ := mf_16 hO41 hc47
            have t57 := fI_of hc47 p56
            obtain ⟨f58, p59⟩ := mf_17 hO41 hc47
            have t60 := fI_of hc47 p59
            have t61 := fI_keep (k := 4) hO0 hO41 hu41 rfl (by decide)
            exact ur_ret rfl rfl (hQ _ _ ⟨_, rfl, ⟨fun q => absurd (by omega) q, fun _ => ⟨x42.toInt, f43.1, fun _ => by omega, fun q => by exfalso; omega⟩⟩⟩ hO41 hu41 hp40)
          · have t62 := lt_no c44
            refine ur_ldA rfl rfl ?_
            refine ur_ldI rfl rfl ?_
            refine ur_ldI rfl rfl ?_
            refine ur_ldI rfl rfl ?_
            obtain ⟨fs63, hc64⟩ := hO41.mod
            obtain ⟨f65, p66, t67⟩ := mf_4 hO41 hc64
            have t68 := fI_of hc64 p66
            obtain ⟨f69, p70⟩ := mf_15 hO41 hc64
            have t71 := fI_of hc64 p70
            obtain ⟨f72, p73⟩ := mf_16 hO41 hc64
            have t74 := fI_of hc64 p73
            obtain ⟨f75, p76⟩ := mf_17 hO41 hc64
            have t77 := fI_of hc64 p76
            have t78 := fI_keep (k := 4) hO0 hO41 hu41 rfl (by decide)
            refine ur_inl rfl (rcv_of hc64) (Nat.le_of_ble_eq_true rfl) (Nat.le_of_ble_eq_true rfl) (sd_X12_standsOn hO41 (hX0.un hO0 hO41 hu41 (by decide)) _ (by show 0 ≤ a1.toInt ∧ a1.toInt ≤ 11; omega) _ (by show -20000 ≤ x42.toInt ∧ x42.toInt ≤ 1020000; omega) _ (by show 0 ≤ a3.toInt ∧ a3.toInt ≤ 999999; omega) hp40 (by omega) (fun w79 h82 hr80 hO82 hv82 hp81 => ?_))
            have hu82 : un [80, 81] h41 h82 := hv82.mono (by decide)
            obtain ⟨b83, rfl, t84, t85⟩ := hr80
            show uRun _ (uCall Mt _) _ 55 (_, [(.inl (bi b83))], _, _, _)
            refine ur_neB rfl (fun c86 => ?_) (fun c86 => ?_)
            · have t87 := t84 c86
              clear t84 t85
              have so88 := hp81
              rw [gI_keep (a := 74) (kd := 0) (n := 12) hO0 hu41 a1.toInt (by decide) rfl (by decide) rfl (by decide) (by decide), gI_keep (a := 76) (kd := 0) (n := 12) hO0 hu41 a1.toInt (by decide) rfl (by decide) rfl (by decide) (by decide), gI_keep (a := 75) (kd := 0) (n := 12) hO0 hu41 a1.toInt (by decide) rfl (by decide) rfl (by decide) (by decide)] at so88
              have so89 := so88.2 (by omega)
              have tt90 := so89.2.1
              obtain ⟨fs91, hc92⟩ := hO82.mod
              obtain ⟨f93, p94⟩ := mf_15 hO82 hc92
              have t95 := fI_of hc92 p94
              obtain ⟨f96, p97⟩ := mf_16 hO82 hc92
              have t98 := fI_of hc92 p97
              obtain ⟨f99, p100⟩ := mf_17 hO82 hc92
              have t101 := fI_of hc92 p100
              refine ur_ldI rfl rfl ?_
              refine ur_if1 rfl (fun c102 => ?_) (fun c102 => ?_)
              · have t103 := ne_to c102
                refine ur_ldI rfl rfl ?_
                refine ur_push rfl ?_
                refine ur_if2 rfl (fun c104 => ?_) (fun c104 => ?_)
                · have t105 := ne_to c104
                  refine ur_ldI rfl rfl ?_
                  refine ur_push rfl ?_
                  refine ur_if2 rfl (fun c106 => ?_) (fun c106 => ?_)
                  · have t107 := ne_to c106
                    refine ur_ldA rfl rfl ?_
                    refine ur_ldI rfl rfl ?_
                    refine ur_push rfl ?_
                    refine ur_ldI rfl rfl ?_
                    have t108 := fI_keep (k := 4) hO0 hO82 (hu41.tr hu82) rfl (by decide)
                    refine ur_inl rfl (rcv_of hc92) (Nat.le_of_ble_eq_true rfl) (Nat.le_of_ble_eq_true rfl) (sd_X12_tailNow hO82 (hX0.un hO0 hO82 (hu41.tr hu82) (by decide)) _ (by show 0 ≤ a1.toInt ∧ a1.toInt ≤ 11; omega) _ (by show 0 ≤ (0 : Int32).toInt ∧ (0 : Int32).toInt ≤ 8; omega) _ (by show 0 ≤ a3.toInt ∧ a3.toInt ≤ 999999; omega) (by omega) (pre1.keep (KN.un hO0 (hu41.tr hu82) (by decide) (by decide) (by decide) (by decide) (by decide)) (by decide)) pre2 (fun w109 h111 hr110 hO111 hv111 => ?_))
                    have hu111 : un [80, 81] h82 h111 := hv111.mono (by decide)
                    obtain ⟨x112, rfl, f113⟩ := hr110
                    show uRun _ (uCall Mt _) _ 107 (_, [(.inl x112)], _, _, _)
                    obtain ⟨fs114, hc115⟩ := hO111.mod
                    obtain ⟨f116, p117, t118⟩ := mf_4 hO111 hc115
                    have t119 := fI_of hc115 p117
                    obtain ⟨f120, p121⟩ := mf_15 hO111 hc115
                    have t122 := fI_of hc115 p121
                    obtain ⟨f123, p124⟩ := mf_16 hO111 hc115
                    have t125 := fI_of hc115 p124
                    obtain ⟨f126, p127⟩ := mf_17 hO111 hc115
                    have t128 := fI_of hc115 p127
                    have t129 := fI_keep (k := 4) hO0 hO111 (hu41.tr (hu82.tr hu111)) rfl (by decide)
                    exact ur_ret rfl rfl (hQ _ _ ⟨_, rfl, ⟨fun q => absurd (by omega) q, fun _ => ⟨x42.toInt, f43.1, fun q => by exfalso; omega, fun _ => ⟨fun q => by exfalso; omega, fun _ => ⟨fun q => by exfalso; omega, fun q => by exfalso; omega, fun q => by exfalso; omega, fun _ => (by have q := f113.1; rw [so89.1, so89.2.2, so88.1, gI_keep (a := 77) (kd := 0) (n := 12) hO0 (hu41.tr hu82) a1.toInt (by decide) rfl (by decide) rfl (by decide) (by decide), l_0] at q; exact q)⟩⟩⟩⟩⟩ hO111 (hu41.tr (hu82.tr hu111)) ((hp40.un hO41 hO82 hv82 (by decide)).un hO82 hO111 hv111 (by decide)))
                  · have t130 := ne_no c106
                    refine ur_ldA rfl rfl ?_
                    refine ur_ldI rfl rfl ?_
                    have t131 := fI_keep (k := 4) hO0 hO82 (hu41.tr hu82) rfl (by decide)
                    refine ur_inl rfl (rcv_of hc92) (Nat.le_of_ble_eq_true rfl) (Nat.le_of_ble_eq_true rfl) (sd_X12_sunApart hO82 _ (by show 0 ≤ a3.toInt ∧ a3.toInt ≤ 999999; omega) (by omega) (fun w132 hr133 => ?_))
                    obtain ⟨x134, rfl, f135⟩ := hr133
                    show uRun _ (uCall Mt _) _ 97 (_, [(.inl x134)], _, _, _)
                    refine ur_go rfl ?_
                    obtain ⟨f136, p137, t138⟩ := mf_4 hO82 hc92
                    have t139 := fI_of hc92 p137
                    exact ur_ret rfl rfl (hQ _ _ ⟨_, rfl, ⟨fun q => absurd (by omega) q, fun _ => ⟨x42.toInt, f43.1, fun q => by exfalso; omega, fun _ => ⟨fun q => by exfalso; omega, fun _ => ⟨fun q => by exfalso; omega, fun q => by exfalso; omega, fun _ => (by have q := f135.1; rw [so89.1] at q; exact q), fun q => by exfalso; omega⟩⟩⟩⟩⟩ hO82 (hu41.tr hu82) (hp40.un hO41 hO82 hv82 (by decide)))
                · have t140 := ne_no c104
                  refine ur_ldA rfl rfl ?_
                  refine ur_get rfl hc92 p97 ?_
                  refine ur_go rfl ?_
                  obtain ⟨f141, p142, t143⟩ := mf_4 hO82 hc92
                  have t144 := fI_of hc92 p142
                  have t145 := fI_keep (k := 4) hO0 hO82 (hu41.tr hu82) rfl (by decide)
                  exact ur_ret rfl rfl (hQ _ _ ⟨_, rfl, ⟨fun q => absurd (by omega) q, fun _ => ⟨x42.toInt, f43.1, fun q => by exfalso; omega, fun _ => ⟨fun q => by exfalso; omega, fun _ => ⟨fun q => by exfalso; omega, fun _ => (by omega), fun q => by exfalso; omega, fun q => by exfalso; omega⟩⟩⟩⟩⟩ hO82 (hu41.tr hu82) (hp40.un hO41 hO82 hv82 (by decide)))
              · have t146 := ne_no c102
                refine ur_ldA rfl rfl ?_
                refine ur_get rfl hc92 p94 ?_
                refine ur_go rfl ?_
                obtain ⟨f147, p148, t149⟩ := mf_4 hO82 hc92
                have t150 := fI_of hc92 p148
                have t151 := fI_keep (k := 4) hO0 hO82 (hu41.tr hu82) rfl (by decide)
                exact ur_ret rfl rfl (hQ _ _ ⟨_, rfl, ⟨fun q => absurd (by omega) q, fun _ => ⟨x42.toInt, f43.1, fun q => by exfalso; omega, fun _ => ⟨fun q => by exfalso; omega, fun _ => ⟨fun _ => (by omega), fun q => by exfalso; omega, fun q => by exfalso; omega, fun q => by exfalso; omega⟩⟩⟩⟩⟩ hO82 (hu41.tr hu82) (hp40.un hO41 hO82 hv82 (by decide)))
            · have t152 := t85 c86
              clear t84 t85
              refine ur_push rfl ?_
              obtain ⟨fs153, hc154⟩ := hO82.mod
              obtain ⟨f155, p156, t157⟩ := mf_4 hO82 hc154
              have t158 := fI_of hc154 p156
              obtain ⟨f159, p160⟩ := mf_15 hO82 hc154
              have t161 := fI_of hc154 p160
              obtain ⟨f162, p163⟩ := mf_16 hO82 hc154
              have t164 := fI_of hc154 p163
              obtain ⟨f165, p166⟩ := mf_17 hO82 hc154
              have t167 := fI_of hc154 p166
              have t168 := fI_keep (k := 4) hO0 hO82 (hu41.tr hu82) rfl (by decide)
              exact ur_ret rfl rfl (hQ _ _ ⟨_, rfl, ⟨fun q => absurd (by omega) q, fun _ => ⟨x42.toInt, f43.1, fun _ => by omega, fun _ => ⟨fun _ => by omega, fun q => by exfalso; omega⟩⟩⟩⟩ hO82 (hu41.tr hu82) (hp40.un hO41 hO82 hv82 (by decide)))
        · have t169 := wi_noL c36 l_0 l_3
          refine ur_push rfl ?_
          exact ur_ret rfl rfl (hQ _ _ ⟨_, rfl, ⟨fun _ => by omega, fun q => by exfalso; omega⟩⟩ hO0 un.rf pre0)

set_option maxRecDepth 20000 in
set_option maxHeartbeats 4000000 in
theorem sd_X11_seen {d kc ks : Nat} {h0 : aH} {Q : Option aV → aH → Prop} {ls : List (List (Int × Int) × List (Int × Int))} (hO0 : OK h0) (a1 : Int32) (a2 : Int32) (a3 : Int32) (pre0 : SKc h0) (pre1 : SGc ls h0) (pre2 : txC h0 9 = cfl 0 ls) (pre3 : ∀ l ∈ ls, lnG l) (hQ : ∀ r h', (∃ x : Int32, r = some (.inl x) ∧ ((¬ ((0 ≤ a1.toInt ∧ a1.toInt < fO h0 1 4) ∧ (0 ≤ a2.toInt ∧ a2.toInt ≤ 8) ∧ (0 ≤ a3.toInt ∧ a3.toInt ≤ 999999)) → x.toInt = -2000000000) ∧ (((0 ≤ a1.toInt ∧ a1.toInt < fO h0 1 4) ∧ (0 ≤ a2.toInt ∧ a2.toInt ≤ 8) ∧ (0 ≤ a3.toInt ∧ a3.toInt ≤ 999999)) → ∃ z, cz h0 a1.toInt z ∧ LKf (fO h0 z 8) (fO h0 z 9) (-2000000000) (fun j => (fun t => canP ls (fO h0 z 2) (fO h0 z 4) (fO h0 z 3) (fO h0 z 5) a2.toInt t a3.toInt) (cf h0 z j)) x.toInt))) → OK h' → un [222, 223, 21212] h0 h' → (SGc ls h') → Q r h') : uCall Mt (d + 5) 129 [(.inr (.inr (some 0))), (.inl a1), (.inl a2), (.inl a3)] h0 kc ks Q := by
  have l_m2000000000 : ((-2000000000) : Int32).toInt = -2000000000 := by decide
  have l_0 : ((0) : Int32).toInt = 0 := by decide
  have l_1 : ((1) : Int32).toInt = 1 := by decide
  have l_8 : ((8) : Int32).toInt = 8 := by decide
  have l_999999 : ((999999) : Int32).toInt = 999999 := by decide
  refine uc_ink [some (.inr (.inr (some 0))), some (.inl a1), some (.inl a2), some (.inl a3), none, none] mt_129 (Nat.le_of_ble_eq_true rfl) rfl ?_
  obtain ⟨f2, f3, hc1, k4⟩ := ok_1 hO0
  have t5 := fO_of (k := 4) hc1 rfl
  refine ur_ldA rfl rfl ?_
  obtain ⟨hc6, k7⟩ := ok_0 hO0
  refine ur_get rfl hc6 rfl ?_
  refine ur_ldI rfl rfl ?_
  refine ur_inl rfl (rcv_of hc1) (Nat.le_of_ble_eq_true rfl) (Nat.le_of_ble_eq_true rfl) (sd_X6_cometAt hO0 _ pre0 (fun w8 hr9 => ?_))
  obtain ⟨o10, rfl, k11, t12, t13⟩ := hr9
  show uRun _ (uCall Mt _) _ 8 (_, [(.inr (.inr o10))], _, _, _)
  refine ur_svAk [some (.inr (.inr (some 0))), some (.inl a1), some (.inl a2), some (.inl a3), some (.inr (.inr o10)), none] rfl rfl ?_
  refine ur_ldA rfl rfl ?_
  cases o10 with
  | none =>
    refine ur_nulN rfl ?_
    have t15 := t12 rfl
    refine ur_push rfl ?_
    exact ur_ret rfl rfl (hQ _ _ ⟨_, rfl, ⟨fun _ => by omega, fun q => by exfalso; omega⟩⟩ hO0 un.rf pre1)
  | some r14 =>
    refine ur_nulS rfl ?_
    have k16 := k11 _ rfl
    have t17 := t13 _ rfl
    refine ur_ldI rfl rfl ?_
    refine ur_callv rfl rfl (Nat.le_of_ble_eq_true rfl) (Nat.le_of_ble_eq_true rfl) rfl (sp_isPpl _ _) ?_
    refine ur_eqB rfl (fun c20 => ?_) (fun c20 => ?_)
    · have t21 := wi_noL c20 l_0 l_8
      refine ur_push rfl ?_
      exact ur_ret rfl rfl (hQ _ _ ⟨_, rfl, ⟨fun _ => by omega, fun q => by exfalso; omega⟩⟩ hO0 un.rf pre1)
    · have t22 := wi_toL c20 l_0 l_8
      refine ur_ldI rfl rfl ?_
      refine ur_callv rfl rfl (Nat.le_of_ble_eq_true rfl) (Nat.le_of_ble_eq_true rfl) rfl (sp_isDay _ _) ?_
      refine ur_neB rfl (fun c25 => ?_) (fun c25 => ?_)
      · have t26 := wi_toL c25 l_0 l_999999
        obtain ⟨g47, f28, f29, f30, f31, f32, f33, f34, f35, f36, f37, q38, q39, o40, q41, hc27, k42, k43, k44, k45, k46⟩ := hO0.comet k16.2
        have t48 := fO_of (k := 8) hc27 rfl
        have t49 := fO_of (k := 9) hc27 rfl
        have cd50 := (pre1.1 a1.toInt r14 t17.1.1 t17.1.2 t17.2).1
        refine ur_ldA rfl rfl ?_
        refine ur_get rfl hc27 rfl ?_
        refine ur_svIk [some (.inr (.inr (some 0))), some (.inl a1), some (.inl a2), some (.inl a3), some (.inr (.inr (some r14))), some (.inl f36)] rfl rfl ?_
        have L52 : ∀ (m53 : Nat) (x51 : Int32) (h55 : aH) , OK h55 → un [222, 223, 21212] h0 h55 → ((-60 ≤ x51.toInt ∧ x51.toInt ≤ 61) ∧ fO h0 r14 8 ≤ x51.toInt ∧ x51.toInt ≤ fO h0 r14 9 + 1) → (LKq (fO h0 r14 8) x51.toInt (fun j => (fun t => canP ls (fO h0 r14 2) (fO h0 r14 4) (fO h0 r14 3) (fO h0 r14 5) a2.toInt t a3.toInt) (cf h0 r14 j))) → (SGc ls h55) → ((62 - x51.toInt).toNat) < m53 → uRun oX11_seen (uCall Mt (d + 4)) Q 39 ([some (.inr (.inr (some 0))), some (.inl a1), some (.inl a2), some (.inl a3), some (.inr (.inr (some r14))), some (.inl x51)], [], h55, kc, ks) := by
          intro m53
          induction m53 with
          | zero => intro x51 h55 hO55 hu55 iv58 px56 px57 mm59; omega
          | succ m53 ih54 =>
            intro x51 h55 hO55 hu55 iv58 px56 px57 mm59
            refine ur_ldI rfl rfl ?_
            refine ur_ldA rfl rfl ?_
            obtain ⟨g80, f61, f62, f63, f64, f65, f66, f67, f68, f69, f70, q71, q72, o73, q74, hc60, k75, k76, k77, k78, k79⟩ := hO55.comet (hu55.tm k16.2 (by decide))
            refine ur_get rfl hc60 rfl ?_
            have t81 := fO_of (k := 8) hc60 rfl
            have tt82 : fO h55 r14 8 = fO h0 r14 8 := fO_eA (fC_un hO0 hu55 g80 k16.2 (k := 8) (by decide) (by decide))
            have t83 := fO_of (k := 9) hc60 rfl
            have tt84 : fO h55 r14 9 = fO h0 r14 9 := fO_eA (fC_un hO0 hu55 g80 k16.2 (k := 9) (by decide) (by decide))
            have z85 := any_r x51
            have z86 := any_r f70
            refine ur_if2 rfl (fun c87 => ?_) (fun c87 => ?_)
            · have t88 := lt_to c87
              refine ur_push rfl ?_
              have t89 := fO_of (k := 4) (hu55.ko (n := 5) hc1 rfl (wid_f (by decide)) (by decide)) rfl
              exact ur_ret rfl rfl (hQ _ _ ⟨_, rfl, ⟨fun q => absurd (by omega) q, fun _ => ⟨r14, t17.2, Or.inl ⟨by omega, (by have q := px56; rw [show x51.toInt = fO h0 r14 9 + 1 by omega] at q; exact q)⟩⟩⟩⟩ hO55 hu55 px57)
            · have t90 := lt_no c87
              refine ur_ldA rfl rfl ?_
              refine ur_get rfl (hu55.ko (n := 8) hc6 rfl (wid_f (by decide)) (by decide)) rfl ?_
              refine ur_ldA rfl rfl ?_
              refine ur_ldI rfl rfl ?_
              refine ur_ldI rfl rfl ?_
              refine ur_push rfl ?_
              refine ur_ldI rfl rfl ?_
              obtain ⟨f92, hc91, k93⟩ := ok_8 hO55
              refine ur_inl rfl (rcv_of hc91) (Nat.le_of_ble_eq_true rfl) (Nat.le_of_ble_eq_true rfl) (sd_X5_seenOn hO55 g80 (hu55.tm k16.2 (by decide)) _ (by show 0 ≤ a2.toInt ∧ a2.toInt ≤ 8; omega) _ (by show -60 ≤ x51.toInt ∧ x51.toInt ≤ 60; omega) _ (by show -1000000 ≤ (0 : Int32).toInt ∧ (0 : Int32).toInt ≤ 1000000; omega) _ (by show 0 ≤ a3.toInt ∧ a3.toInt ≤ 999999; omega) (pre0.un hO0 hO55 hu55 (by decide)) px57 (cz_un hO0 hO55 hu55 t17 (by decide) (by decide)) ((txC_un hO0 hO55 hu55 (by decide) 9 (by decide)).trans pre2) pre3 (by rw [fO_eA (fC_un hO0 hu55 g80 k16.2 (k := 8) (by decide) (by decide)), fO_eA (fC_un hO0 hu55 g80 k16.2 (k := 9) (by decide) (by decide))]; omega) (fun w94 h97 hr95 hO97 hv97 hp96 => ?_))
              have hu97 := hv97
              obtain ⟨b98, rfl, t99, t100⟩ := hr95
              show uRun _ (uCall Mt _) _ 63 (_, [(.inl (bi b98))], _, _, _)
              refine ur_eqB rfl (fun c101 => ?_) (fun c101 => ?_)
              · have t102 := t100 c101
                clear t99 t100
                refine ur_incV (fun z => [some (.inr (.inr (some 0))), some (.inl a1), some (.inl a2), some (.inl a3), some (.inr (.inr (some r14))), some (.inl z)]) rfl rfl (fun _ => rfl) (fun x103 e104 => ?_)
                have t105 := ti_add e104 (by omega) (by omega)
                refine ur_go rfl ?_
                have t106 := fO_of (k := 4) (hv97.ko (n := 5) (hu55.ko (n := 5) hc1 rfl (wid_f (by decide)) (by decide)) rfl (wid_f (by decide)) (by decide)) rfl
                have z107 := any_r x103
                exact ih54 x103 _ hO97 (hu55.tr hu97) (by omega) (px56.s (by have q := t102; rw [fO_eA (fC_un hO0 hu55 g80 k16.2 (k := 2) (by decide) (by decide)), fO_eA (fC_un hO0 hu55 g80 k16.2 (k := 4) (by decide) (by decide)), fO_eA (fC_un hO0 hu55 g80 k16.2 (k := 3) (by decide) (by decide)), fO_eA (fC_un hO0 hu55 g80 k16.2 (k := 5) (by decide) (by decide)), cf_un hO0 hu55 g80 k16.2 (by decide), l_0, Int.add_zero] at q; exact q) (by omega)) hp96 (by omega)
              · have t108 := t99 c101
                clear t99 t100
                refine ur_ldI rfl rfl ?_
                have t109 := fO_of (k := 4) (hv97.ko (n := 5) (hu55.ko (n := 5) hc1 rfl (wid_f (by decide)) (by decide)) rfl (wid_f (by decide)) (by decide)) rfl
                exact ur_ret rfl rfl (hQ _ _ ⟨_, rfl, ⟨fun q => absurd (by omega) q, fun _ => ⟨r14, t17.2, Or.inr ⟨by omega, (by have q := t108; rw [fO_eA (fC_un hO0 hu55 g80 k16.2 (k := 2) (by decide) (by decide)), fO_eA (fC_un hO0 hu55 g80 k16.2 (k := 4) (by decide) (by decide)), fO_eA (fC_un hO0 hu55 g80 k16.2 (k := 3) (by decide) (by decide)), fO_eA (fC_un hO0 hu55 g80 k16.2 (k := 5) (by decide) (by decide)), cf_un hO0 hu55 g80 k16.2 (by decide), l_0, Int.add_zero] at q; exact q), px56⟩⟩⟩⟩ hO97 (hu55.tr hu97) hp96)
        have z110 := any_r f36
        exact L52 _ f36 _ hO0 un.rf (by omega) (LKq.z (by omega)) pre1 (Nat.lt_succ_self _)
      · have t111 := wi_noL c25 l_0 l_999999
        refine ur_push rfl ?_
        exact ur_ret rfl rfl (hQ _ _ ⟨_, rfl, ⟨fun _ => by omega, fun q => by exfalso; omega⟩⟩ hO0 un.rf pre1)

set_option maxRecDepth 20000 in
set_option maxHeartbeats 4000000 in
theorem se_X12_seenBy {d kc ks : Nat} {h0 : aH} {Q : Option aV → aH → Prop} {ls : List (List (Int × Int) × List (Int × Int))} (hO0 : OK h0) (hX0 : SX h0) (a1 : Int32) (b1 : 0 ≤ a1.toInt ∧ a1.toInt ≤ 11) (a2 : Int32) (b2 : 0 ≤ a2.toInt ∧ a2.toInt ≤ 8) (a3 : Int32) (b3 : 0 ≤ a3.toInt ∧ a3.toInt ≤ 999999) (pre0 : SKm h0) (pre1 : a1.toInt < fI h0 4) (pre2 : RLn h0 0 ls) (pre3 : ∀ l ∈ ls, lnG l) (hQ : ∀ r h', (∃ x : Int32, r = some (.inl x) ∧ (LRf 61 (fun j t => retV (NMh h0 (gI h0 73 a1.toInt)) (gI h0 73 a1.toInt) (gI h0 72 a1.toInt) j t) (fun t => canP ls (gI h0 74 a1.toInt) (gI h0 76 a1.toInt) (gI h0 75 a1.toInt) (gI h0 77 a1.toInt) a2.toInt t a3.toInt) x.toInt ∧ -60 ≤ x.toInt ∧ x.toInt ≤ 61)) → OK h' → un [80, 81] h0 h' → (SKm h') → Q r h') : uCall Mt (d + 6) 210 [(.inr (.inr (some 69))), (.inl a1), (.inl a2), (.inl a3)] h0 kc ks Q := by
  have l_m60 : ((-60) : Int32).toInt = -60 := by decide
  have l_0 : ((0) : Int32).toInt = 0 := by decide
  have l_1 : ((1) : Int32).toInt = 1 := by decide
  have l_60 : ((60) : Int32).toInt = 60 := by decide
  have l_61 : ((61) : Int32).toInt = 61 := by decide
  have l_120 : ((120) : Int32).toInt = 120 := by decide
  refine uc_ink [some (.inr (.inr (some 69))), some (.inl a1), some (.inl a2), some (.inl a3), none, none] mt_210 (Nat.le_of_ble_eq_true rfl) rfl ?_
  obtain ⟨fs1, hc2⟩ := hO0.mod
  obtain ⟨f3, p4, t5⟩ := mf_4 hO0 hc2
  have t6 := fI_of hc2 p4
  refine ur_push rfl ?_
  refine ur_svIk [some (.inr (.inr (some 69))), some (.inl a1), some (.inl a2), some (.inl a3), some (.inl (-60)), none] rfl rfl ?_
  have L9 : ∀ (m10 : Nat) (x7 : Int32) (u8 : Option aV) (h12 : aH) , OK h12 → un [80, 81] h0 h12 → ((-60 ≤ x7.toInt ∧ x7.toInt ≤ 61)) → (LRq (-60) x7.toInt (fun j t => retV (NMh h0 (gI h0 73 a1.toInt)) (gI h0 73 a1.toInt) (gI h0 72 a1.toInt) j t) (fun t => canP ls (gI h0 74 a1.toInt) (gI h0 76 a1.toInt) (gI h0 75 a1.toInt) (gI h0 77 a1.toInt) a2.toInt t a3.toInt)) → (SKm h12) → ((62 - x7.toInt).toNat) < m10 → uRun oX12_seenBy (uCall Mt (d + 5)) Q 4 ([some (.inr (.inr (some 69))), some (.inl a1), some (.inl a2), some (.inl a3), some (.inl x7), u8], [], h12, kc, ks) := by
    intro m10
    induction m10 with
    | zero => intro x7 u8 h12 hO12 hu12 iv15 px13 px14 mm16; omega
    | succ m10 ih11 =>
      intro x7 u8 h12 hO12 hu12 iv15 px13 px14 mm16
      refine ur_ldI rfl rfl ?_
      refine ur_push rfl ?_
      refine ur_if2 rfl (fun c17 => ?_) (fun c17 => ?_)
      · have t18 := lt_to c17
        refine ur_push rfl ?_
        obtain ⟨fs19, hc20⟩ := hO12.mod
        obtain ⟨f21, p22, t23⟩ := mf_4 hO12 hc20
        have t24 := fI_of hc20 p22
        have t25 := fI_keep (k := 4) hO0 hO12 hu12 rfl (by decide)
        exact ur_ret rfl rfl (hQ _ _ ⟨_, rfl, ⟨Or.inl ⟨by omega, (by have q := px13; rw [show x7.toInt = 61 by omega] at q; exact q)⟩, by omega⟩⟩ hO12 hu12 px14)
      · have t26 := lt_no c17
        refine ur_ldA rfl rfl ?_
        refine ur_ldI rfl rfl ?_
        refine ur_ldI rfl rfl ?_
        obtain ⟨fs27, hc28⟩ := hO12.mod
        obtain ⟨f29, p30, t31⟩ := mf_4 hO12 hc28
        have t32 := fI_of hc28 p30
        have t33 := fI_keep (k := 4) hO0 hO12 hu12 rfl (by decide)
        refine ur_inl rfl (rcv_of hc28) (Nat.le_of_ble_eq_true rfl) (Nat.le_of_ble_eq_true rfl) (sd_X12_passOf hO12 (hX0.un hO0 hO12 hu12 (by decide)) _ (by show 0 ≤ a1.toInt ∧ a1.toInt ≤ 11; omega) _ (by show -60 ≤ x7.toInt ∧ x7.toInt ≤ 60; omega) px14 (by omega) (fun w34 h37 hr35 hO37 hv37 hp36 => ?_))
        have hu37 := hv37
        obtain ⟨x38, rfl, f39⟩ := hr35
        show uRun _ (uCall Mt _) _ 18 (_, [(.inl x38)], _, _, _)
        refine ur_svIk [some (.inr (.inr (some 69))), some (.inl a1), some (.inl a2), some (.inl a3), some (.inl x7), some (.inl x38)] rfl rfl ?_
        refine ur_ldI rfl rfl ?_
        refine ur_if1 rfl (fun c40 => ?_) (fun c40 => ?_)
        · have t41 := lt_to c40
          refine ur_incV (fun z => [some (.inr (.inr (some 69))), some (.inl a1), some (.inl a2), some (.inl a3), some (.inl z), some (.inl x38)]) rfl rfl (fun _ => rfl) (fun x42 e43 => ?_)
          have z44 := any_r x7
          have t45 := ti_add e43 (by omega) (by omega)
          refine ur_go rfl ?_
          obtain ⟨fs46, hc47⟩ := hO37.mod
          obtain ⟨f48, p49, t50⟩ := mf_4 hO37 hc47
          have t51 := fI_of hc47 p49
          have z52 := any_r x42
          exact ih11 x42 _ _ hO37 (hu12.tr hu37) (by omega) (px13.s (by have q := f39.1; rw [gI_keep (a := 73) (kd := 0) (n := 12) hO0 hu12 a1.toInt (by decide) rfl (by decide) rfl (by decide) (by decide), gI_keep (a := 72) (kd := 0) (n := 12) hO0 hu12 a1.toInt (by decide) rfl (by decide) rfl (by decide) (by decide), show NMh h12 (gI h0 73 a1.toInt) = NMh h0 (gI h0 73 a1.toInt) from nxM_un hO0 hO12 hu12 (by decide) (by decide) (by decide) _] at q; exact q) (fun q => by have k := q.2.1; omega) (by omega)) hp36 (by omega)
        · have t53 := lt_no c40
          refine ur_ldI rfl rfl ?_
          refine ur_ldI rfl rfl ?_
          refine ur_binV rfl (fun x54 e55 => ?_)
          have z56 := any_r a3
          have z57 := any_r x38
          have t58 := ti_sub e55 (by omega) (by omega)
          have t59 := fI_keep (k := 4) hO0 hO37 (hu12.tr hu37) rfl (by decide)
          refine ur_inl rfl rfl (Nat.le_of_ble_eq_true rfl) (Nat.le_of_ble_eq_true rfl) (sf_X12_sizeOf _ (fun w60 hr61 => ?_))
          obtain ⟨x62, rfl, t63⟩ := hr61
          show uRun _ (uCall Mt _) _ 32 (_, [(.inl x62)], _, _, _)
          refine ur_push rfl ?_
          refine ur_if2 rfl (fun c64 => ?_) (fun c64 => ?_)
          · have t65 := lt_to c64
            refine ur_incV (fun z => [some (.inr (.inr (some 69))), some (.inl a1), some (.inl a2), some (.inl a3), some (.inl z), some (.inl x38)]) rfl rfl (fun _ => rfl) (fun x66 e67 => ?_)
            have z68 := any_r x7
            have t69 := ti_add e67 (by omega) (by omega)
            refine ur_go rfl ?_
            obtain ⟨fs70, hc71⟩ := hO37.mod
            obtain ⟨f72, p73, t74⟩ := mf_4 hO37 hc71
            have t75 := fI_of hc71 p73
            have z76 := any_r x66
            exact ih11 x66 _ _ hO37 (hu12.tr hu37) (by omega) (px13.s (by have q := f39.1; rw [gI_keep (a := 73) (kd := 0) (n := 12) hO0 hu12 a1.toInt (by decide) rfl (by decide) rfl (by decide) (by decide), gI_keep (a := 72) (kd := 0) (n := 12) hO0 hu12 a1.toInt (by decide) rfl (by decide) rfl (by decide) (by decide), show NMh h12 (gI h0 73 a1.toInt) = NMh h0 (gI h0 73 a1.toInt) from nxM_un hO0 hO12 hu12 (by decide) (by decide) (by decide) _] at q; exact q) (fun q => by have k := q.2.1; omega) (by omega)) hp36 (by omega)
          · have t77 := lt_no c64
            refine ur_ldA rfl rfl ?_
            refine ur_ldI rfl rfl ?_
            refine ur_ldI rfl rfl ?_
            refine ur_ldI rfl rfl ?_
            refine ur_ldI rfl rfl ?_
            obtain ⟨fs78, hc79⟩ := hO37.mod
            obtain ⟨f80, p81, t82⟩ := mf_4 hO37 hc79
            have t83 := fI_of hc79 p81
            obtain ⟨f84, p85⟩ := mf_15 hO37 hc79
            have t86 := fI_of hc79 p85
            obtain ⟨f87, p88⟩ := mf_16 hO37 hc79
            have t89 := fI_of hc79 p88
            obtain ⟨f90, p91⟩ := mf_17 hO37 hc79
            have t92 := fI_of hc79 p91
            refine ur_inl rfl (rcv_of hc79) (Nat.le_of_ble_eq_true rfl) (Nat.le_of_ble_eq_true rfl) (sd_X12_canSee hO37 (hX0.un hO0 hO37 (hu12.tr hu37) (by decide)) _ (by show 0 ≤ a1.toInt ∧ a1.toInt ≤ 11; omega) _ (by show -20000 ≤ x38.toInt ∧ x38.toInt ≤ 1020000; omega) _ (by show 0 ≤ a2.toInt ∧ a2.toInt ≤ 8; omega) _ (by show 0 ≤ a3.toInt ∧ a3.toInt ≤ 999999; omega) hp36 (by omega) (pre2.keep (KN.un hO0 (hu12.tr hu37) (by decide) (by decide) (by decide) (by decide) (by decide)) (by decide)) pre3 (fun w93 h96 hr94 hO96 hv96 hp95 => ?_))
            have hu96 : un [80, 81] h37 h96 := hv96.mono (by decide)
            obtain ⟨b97, rfl, t98, t99⟩ := hr94
            show uRun _ (uCall Mt _) _ 46 (_, [(.inl (bi b97))], _, _, _)
            refine ur_eqB rfl (fun c100 => ?_) (fun c100 => ?_)
            · have t101 := t99 c100
              clear t98 t99
              refine ur_incV (fun z => [some (.inr (.inr (some 69))), some (.inl a1), some (.inl a2), some (.inl a3), some (.inl z), some (.inl x38)]) rfl rfl (fun _ => rfl) (fun x102 e103 => ?_)
              have z104 := any_r x7
              have t105 := ti_add e103 (by omega) (by omega)
              refine ur_go rfl ?_
              obtain ⟨fs106, hc107⟩ := hO96.mod
              obtain ⟨f108, p109, t110⟩ := mf_4 hO96 hc107
              have t111 := fI_of hc107 p109
              have z112 := any_r x102
              exact ih11 x102 _ _ hO96 (hu12.tr (hu37.tr hu96)) (by omega) (px13.s (by have q := f39.1; rw [gI_keep (a := 73) (kd := 0) (n := 12) hO0 hu12 a1.toInt (by decide) rfl (by decide) rfl (by decide) (by decide), gI_keep (a := 72) (kd := 0) (n := 12) hO0 hu12 a1.toInt (by decide) rfl (by decide) rfl (by decide) (by decide), show NMh h12 (gI h0 73 a1.toInt) = NMh h0 (gI h0 73 a1.toInt) from nxM_un hO0 hO12 hu12 (by decide) (by decide) (by decide) _] at q; exact q) (fun q => absurd q.2 (by have q := t101; rw [gI_keep (a := 74) (kd := 0) (n := 12) hO0 (hu12.tr hu37) a1.toInt (by decide) rfl (by decide) rfl (by decide) (by decide), gI_keep (a := 76) (kd := 0) (n := 12) hO0 (hu12.tr hu37) a1.toInt (by decide) rfl (by decide) rfl (by decide) (by decide), gI_keep (a := 75) (kd := 0) (n := 12) hO0 (hu12.tr hu37) a1.toInt (by decide) rfl (by decide) rfl (by decide) (by decide), gI_keep (a := 77) (kd := 0) (n := 12) hO0 (hu12.tr hu37) a1.toInt (by decide) rfl (by decide) rfl (by decide) (by decide)] at q; exact q)) (by omega)) (hp36.un hO37 hO96 hv96 (by decide)) (by omega)
            · have t113 := t98 c100
              clear t98 t99
              refine ur_ldI rfl rfl ?_
              obtain ⟨fs114, hc115⟩ := hO96.mod
              obtain ⟨f116, p117, t118⟩ := mf_4 hO96 hc115
              have t119 := fI_of hc115 p117
              have t120 := fI_keep (k := 4) hO0 hO96 (hu12.tr (hu37.tr hu96)) rfl (by decide)
              exact ur_ret rfl rfl (hQ _ _ ⟨_, rfl, ⟨Or.inr ⟨by omega, ⟨x38.toInt, (by have q := f39.1; rw [gI_keep (a := 73) (kd := 0) (n := 12) hO0 hu12 a1.toInt (by decide) rfl (by decide) rfl (by decide) (by decide), gI_keep (a := 72) (kd := 0) (n := 12) hO0 hu12 a1.toInt (by decide) rfl (by decide) rfl (by decide) (by decide), show NMh h12 (gI h0 73 a1.toInt) = NMh h0 (gI h0 73 a1.toInt) from nxM_un hO0 hO12 hu12 (by decide) (by decide) (by decide) _] at q; exact q), by omega, (by have q := t113; rw [gI_keep (a := 74) (kd := 0) (n := 12) hO0 (hu12.tr hu37) a1.toInt (by decide) rfl (by decide) rfl (by decide) (by decide), gI_keep (a := 76) (kd := 0) (n := 12) hO0 (hu12.tr hu37) a1.toInt (by decide) rfl (by decide) rfl (by decide) (by decide), gI_keep (a := 75) (kd := 0) (n := 12) hO0 (hu12.tr hu37) a1.toInt (by decide) rfl (by decide) rfl (by decide) (by decide), gI_keep (a := 77) (kd := 0) (n := 12) hO0 (hu12.tr hu37) a1.toInt (by decide) rfl (by decide) rfl (by decide) (by decide)] at q; exact q)⟩, px13⟩, by omega⟩⟩ hO96 (hu12.tr (hu37.tr hu96)) (hp36.un hO37 hO96 hv96 (by decide)))
  exact L9 _ (-60) (none) _ hO0 un.rf (by omega) (LRq.z (by omega)) pre0 (Nat.lt_succ_self _)

set_option maxRecDepth 20000 in
set_option maxHeartbeats 4000000 in
theorem se_X12_seen {d kc ks : Nat} {h0 : aH} {Q : Option aV → aH → Prop} {ls : List (List (Int × Int) × List (Int × Int))} (hO0 : OK h0) (hX0 : SX h0) (a1 : Int32) (a2 : Int32) (a3 : Int32) (pre0 : SKm h0) (pre1 : RLn h0 0 ls) (pre2 : ∀ l ∈ ls, lnG l) (hQ : ∀ r h', (∃ x : Int32, r = some (.inl x) ∧ ((¬ ((0 ≤ a1.toInt ∧ a1.toInt < fI h0 4) ∧ (0 ≤ a2.toInt ∧ a2.toInt ≤ 8) ∧ (0 ≤ a3.toInt ∧ a3.toInt ≤ 999999)) → x.toInt = -2000000000) ∧ (((0 ≤ a1.toInt ∧ a1.toInt < fI h0 4) ∧ (0 ≤ a2.toInt ∧ a2.toInt ≤ 8) ∧ (0 ≤ a3.toInt ∧ a3.toInt ≤ 999999)) → LRf (-2000000000) (fun j t => retV (NMh h0 (gI h0 73 a1.toInt)) (gI h0 73 a1.toInt) (gI h0 72 a1.toInt) j t) (fun t => canP ls (gI h0 74 a1.toInt) (gI h0 76 a1.toInt) (gI h0 75 a1.toInt) (gI h0 77 a1.toInt) a2.toInt t a3.toInt) x.toInt))) → OK h' → un [80, 81] h0 h' → (SKm h') → Q r h') : uCall Mt (d + 7) 211 [(.inr (.inr (some 69))), (.inl a1), (.inl a2), (.inl a3)] h0 kc ks Q := by
  have l_m2000000000 : ((-2000000000) : Int32).toInt = -2000000000 := by decide
  have l_0 : ((0) : Int32).toInt = 0 := by decide
  have l_8 : ((8) : Int32).toInt = 8 := by decide
  have l_60 : ((60) : Int32).toInt = 60 := by decide
  have l_999999 : ((999999) : Int32).toInt = 999999 := by decide
  refine uc_ink [some (.inr (.inr (some 69))), some (.inl a1), some (.inl a2), some (.inl a3), none] mt_211 (Nat.le_of_ble_eq_true rfl) rfl ?_
  obtain ⟨fs1, hc2⟩ := hO0.mod
  obtain ⟨f3, p4, t5⟩ := mf_4 hO0 hc2
  have t6 := fI_of hc2 p4
  refine ur_ldA rfl rfl ?_
  refine ur_ldI rfl rfl ?_
  refine ur_inl rfl (rcv_of hc2) (Nat.le_of_ble_eq_true rfl) (Nat.le_of_ble_eq_true rfl) (sd_X12_isComet hO0 _ (fun w7 hr8 => ?_))
  obtain ⟨b9, rfl, t10, t11⟩ := hr8
  show uRun _ (uCall Mt _) _ 5 (_, [(.inl (bi b9))], _, _, _)
  refine ur_eqB rfl (fun c12 => ?_) (fun c12 => ?_)
  · have t13 := t11 c12
    clear t10 t11
    refine ur_push rfl ?_
    exact ur_ret rfl rfl (hQ _ _ ⟨_, rfl, ⟨fun _ => by omega, fun q => by exfalso; omega⟩⟩ hO0 un.rf pre0)
  · have t14 := t10 c12
    clear t10 t11
    refine ur_ldI rfl rfl ?_
    refine ur_callv rfl rfl (Nat.le_of_ble_eq_true rfl) (Nat.le_of_ble_eq_true rfl) rfl (sq_isPpl _ _) ?_
    refine ur_eqB rfl (fun c17 => ?_) (fun c17 => ?_)
    · have t18 := wi_noL c17 l_0 l_8
      refine ur_push rfl ?_
      exact ur_ret rfl rfl (hQ _ _ ⟨_, rfl, ⟨fun _ => by omega, fun q => by exfalso; omega⟩⟩ hO0 un.rf pre0)
    · have t19 := wi_toL c17 l_0 l_8
      refine ur_ldI rfl rfl ?_
      refine ur_callv rfl rfl (Nat.le_of_ble_eq_true rfl) (Nat.le_of_ble_eq_true rfl) rfl (sq_isDay _ _) ?_
      refine ur_neB rfl (fun c22 => ?_) (fun c22 => ?_)
      · have t23 := wi_toL c22 l_0 l_999999
        refine ur_ldA rfl rfl ?_
        refine ur_ldI rfl rfl ?_
        refine ur_ldI rfl rfl ?_
        refine ur_ldI rfl rfl ?_
        refine ur_inl rfl (rcv_of hc2) (Nat.le_of_ble_eq_true rfl) (Nat.le_of_ble_eq_true rfl) (se_X12_seenBy hO0 hX0 _ (by show 0 ≤ a1.toInt ∧ a1.toInt ≤ 11; omega) _ (by show 0 ≤ a2.toInt ∧ a2.toInt ≤ 8; omega) _ (by show 0 ≤ a3.toInt ∧ a3.toInt ≤ 999999; omega) pre0 (by omega) pre1 pre2 (fun w24 h27 hr25 hO27 hv27 hp26 => ?_))
        have hu27 := hv27
        obtain ⟨x28, rfl, f29⟩ := hr25
        show uRun _ (uCall Mt _) _ 32 (_, [(.inl x28)], _, _, _)
        refine ur_svIk [some (.inr (.inr (some 69))), some (.inl a1), some (.inl a2), some (.inl a3), some (.inl x28)] rfl rfl ?_
        refine ur_ldI rfl rfl ?_
        refine ur_push rfl ?_
        refine ur_if2 rfl (fun c30 => ?_) (fun c30 => ?_)
        · have t31 := le_to c30
          refine ur_ldI rfl rfl ?_
          obtain ⟨fs32, hc33⟩ := hO27.mod
          obtain ⟨f34, p35, t36⟩ := mf_4 hO27 hc33
          have t37 := fI_of hc33 p35
          have t38 := fI_keep (k := 4) hO0 hO27 hu27 rfl (by decide)
          exact ur_ret rfl rfl (hQ _ _ ⟨_, rfl, ⟨fun q => absurd (by omega) q, fun _ => (f29.1.v (by omega) (by omega))⟩⟩ hO27 hu27 hp26)
        · have t39 := le_no c30
          refine ur_push rfl ?_
          refine ur_go rfl ?_
          obtain ⟨fs40, hc41⟩ := hO27.mod
          obtain ⟨f42, p43, t44⟩ := mf_4 hO27 hc41
          have t45 := fI_of hc41 p43
          have t46 := fI_keep (k := 4) hO0 hO27 hu27 rfl (by decide)
          exact ur_ret rfl rfl (hQ _ _ ⟨_, rfl, ⟨fun q => absurd (by omega) q, fun _ => (f29.1.v (by omega) (by omega))⟩⟩ hO27 hu27 hp26)
      · have t47 := wi_noL c22 l_0 l_999999
        refine ur_push rfl ?_
        exact ur_ret rfl rfl (hQ _ _ ⟨_, rfl, ⟨fun _ => by omega, fun q => by exfalso; omega⟩⟩ hO0 un.rf pre0)

set_option maxRecDepth 20000 in
set_option maxHeartbeats 4000000 in
theorem sd_X11_fits {d kc ks : Nat} {h0 : aH} {Q : Option aV → aH → Prop} {ls : List (List (Int × Int) × List (Int × Int))} {l1 : List (List (Int × Int) × List (Int × Int))} (hO0 : OK h0) (a1 : Int32) (a2 : Int32) (a3 : Int32) (pre0 : NA h0) (pre1 : SGc ls h0) (pre2 : SKc h0) (pre3 : txC h0 9 = cfl 0 ls) (pre4 : ∀ l ∈ ls, lnG l) (pre5 : txC h0 11 = cfl 0 l1) (pre6 : ∀ l ∈ l1, lnG l) (pre7 : RTW h0) (pre8 : LDw h0) (hQ : ∀ r h', (∃ x : Int32, r = some (.inl x) ∧ ((¬ ((0 ≤ a1.toInt ∧ a1.toInt < fO h0 15 1) ∧ (0 ≤ a2.toInt ∧ a2.toInt < fO h0 1 4) ∧ (-60 ≤ a3.toInt ∧ a3.toInt ≤ 60)) → x.toInt = -1) ∧ (((0 ≤ a1.toInt ∧ a1.toInt < fO h0 15 1) ∧ (0 ≤ a2.toInt ∧ a2.toInt < fO h0 1 4) ∧ (-60 ≤ a3.toInt ∧ a3.toInt ≤ 60)) → ∃ w z, wz h0 a1.toInt w ∧ cz h0 a2.toInt z ∧ (¬ (fO h0 z 8 ≤ a3.toInt ∧ a3.toInt ≤ fO h0 z 9) → x.toInt = -2) ∧ ((fO h0 z 8 ≤ a3.toInt ∧ a3.toInt ≤ fO h0 z 9) → ∃ y, FCz ls l1 h0 w z (cf h0 z a3.toInt) (fun d => -120 ≤ d - (cf h0 z a3.toInt) ∧ d - (cf h0 z a3.toInt) ≤ 120) y ∧ (y = -1 → x.toInt = -2) ∧ (y ≠ -1 → x.toInt = y))))) → OK h' → un [222, 223, 21212] h0 h' → (SGc ls h') → Q r h') : uCall Mt (d + 7) 139 [(.inr (.inr (some 0))), (.inl a1), (.inl a2), (.inl a3)] h0 kc ks Q := by
  have l_m120 : ((-120) : Int32).toInt = -120 := by decide
  have l_m60 : ((-60) : Int32).toInt = -60 := by decide
  have l_m2 : ((-2) : Int32).toInt = -2 := by decide
  have l_m1 : ((-1) : Int32).toInt = -1 := by decide
  have l_0 : ((0) : Int32).toInt = 0 := by decide
  have l_60 : ((60) : Int32).toInt = 60 := by decide
  have l_120 : ((120) : Int32).toInt = 120 := by decide
  refine uc_ink [some (.inr (.inr (some 0))), some (.inl a1), some (.inl a2), some (.inl a3), none, none, none] mt_139 (Nat.le_of_ble_eq_true rfl) rfl ?_
  obtain ⟨f2, f3, hc1, k4⟩ := ok_1 hO0
  have t5 := fO_of (k := 4) hc1 rfl
  obtain ⟨f7, f8, f9, f10, hc6, k11⟩ := ok_15 hO0
  have t12 := fO_of (k := 1) hc6 rfl
  refine ur_ldA rfl rfl ?_
  obtain ⟨hc13, k14⟩ := ok_0 hO0
  refine ur_get rfl hc13 rfl ?_
  refine ur_ldI rfl rfl ?_
  refine ur_inl rfl (rcv_of hc6) (Nat.le_of_ble_eq_true rfl) (Nat.le_of_ble_eq_true rfl) (se_X1_wordAt hO0 _ pre0 (fun w15 hr16 => ?_))
  obtain ⟨o17, rfl, k18, t19, t20⟩ := hr16
  show uRun _ (uCall Mt _) _ 8 (_, [(.inr (.inr o17))], _, _, _)
  refine ur_svAk [some (.inr (.inr (some 0))), some (.inl a1), some (.inl a2), some (.inl a3), some (.inr (.inr o17)), none, none] rfl rfl ?_
  refine ur_ldA rfl rfl ?_
  refine ur_get rfl hc13 rfl ?_
  refine ur_ldI rfl rfl ?_
  refine ur_inl rfl (rcv_of hc1) (Nat.le_of_ble_eq_true rfl) (Nat.le_of_ble_eq_true rfl) (sd_X6_cometAt hO0 _ pre2 (fun w21 hr22 => ?_))
  obtain ⟨o23, rfl, k24, t25, t26⟩ := hr22
  show uRun _ (uCall Mt _) _ 18 (_, [(.inr (.inr o23))], _, _, _)
  refine ur_svAk [some (.inr (.inr (some 0))), some (.inl a1), some (.inl a2), some (.inl a3), some (.inr (.inr o17)), some (.inr (.inr o23)), none] rfl rfl ?_
  refine ur_ldA rfl rfl ?_
  cases o17 with
  | none =>
    refine ur_nulN rfl ?_
    have t28 := t19 rfl
    refine ur_push rfl ?_
    exact ur_ret rfl rfl (hQ _ _ ⟨_, rfl, ⟨fun _ => by omega, fun q => by exfalso; omega⟩⟩ hO0 un.rf pre1)
  | some r27 =>
    refine ur_nulS rfl ?_
    have k29 := k18 _ rfl
    have t30 := t20 _ rfl
    refine ur_ldA rfl rfl ?_
    cases o23 with
    | none =>
      refine ur_nulN rfl ?_
      have t32 := t25 rfl
      refine ur_push rfl ?_
      exact ur_ret rfl rfl (hQ _ _ ⟨_, rfl, ⟨fun _ => by omega, fun q => by exfalso; omega⟩⟩ hO0 un.rf pre1)
    | some r31 =>
      refine ur_nulS rfl ?_
      have k33 := k24 _ rfl
      have t34 := t26 _ rfl
      refine ur_ldI rfl rfl ?_
      refine ur_callv rfl rfl (Nat.le_of_ble_eq_true rfl) (Nat.le_of_ble_eq_true rfl) rfl (sp_isRet _ _) ?_
      refine ur_neB rfl (fun c37 => ?_) (fun c37 => ?_)
      · have t38 := wi_toL c37 l_m60 l_60
        obtain ⟨g59, f40, f41, f42, f43, f44, f45, f46, f47, f48, f49, q50, q51, o52, q53, hc39, k54, k55, k56, k57, k58⟩ := hO0.comet k33.2
        have t60 := fO_of (k := 8) hc39 rfl
        have t61 := fO_of (k := 9) hc39 rfl
        have cd62 := (pre1.1 a2.toInt r31 t34.1.1 t34.1.2 t34.2).1
        refine ur_ldA rfl rfl ?_
        refine ur_ldI rfl rfl ?_
        refine ur_inl rfl (rcv_of hc39) (Nat.le_of_ble_eq_true rfl) (Nat.le_of_ble_eq_true rfl) (sd_X2_hasReturn hO0 g59 k33.2 _ (fun w63 hr64 => ?_))
        obtain ⟨b65, rfl, t66, t67⟩ := hr64
        show uRun _ (uCall Mt _) _ 45 (_, [(.inl (bi b65))], _, _, _)
        refine ur_neB rfl (fun c68 => ?_) (fun c68 => ?_)
        · have t69 := t66 c68
          clear t66 t67
          refine ur_ldA rfl rfl ?_
          refine ur_get rfl hc13 rfl ?_
          refine ur_ldA rfl rfl ?_
          refine ur_ldA rfl rfl ?_
          refine ur_ldI rfl rfl ?_
          refine ur_push rfl ?_
          refine ur_push rfl ?_
          refine ur_push rfl ?_
          obtain ⟨f71, hc70, k72⟩ := ok_8 hO0
          refine ur_inl rfl (rcv_of hc70) (Nat.le_of_ble_eq_true rfl) (Nat.le_of_ble_eq_true rfl) (sd_X5_fitDay hO0 k29.1 k29.2 g59 k33.2 _ (by show -60 ≤ a3.toInt ∧ a3.toInt ≤ 60; omega) _ (by show -1000000 ≤ (0 : Int32).toInt ∧ (0 : Int32).toInt ≤ 1000000; omega) _ (by show -120 ≤ ((-120) : Int32).toInt ∧ ((-120) : Int32).toInt ≤ 120; omega) _ (by show -120 ≤ (120 : Int32).toInt ∧ (120 : Int32).toInt ≤ 120; omega) pre2 pre1 t34 pre3 pre4 pre5 pre6 t30 pre7 pre8 (by omega) (fun w73 h76 hr74 hO76 hv76 hp75 => ?_))
          have hu76 := hv76
          obtain ⟨x77, rfl, f78⟩ := hr74
          show uRun _ (uCall Mt _) _ 68 (_, [(.inl x77)], _, _, _)
          obtain ⟨⟨r79, rr80, F81⟩, bb82⟩ := f78
          rw [l_0, Int.add_zero, l_m120, l_120] at F81
          have F83 := FCz.of rr80 F81
          refine ur_svIk [some (.inr (.inr (some 0))), some (.inl a1), some (.inl a2), some (.inl a3), some (.inr (.inr (some r27))), some (.inr (.inr (some r31))), some (.inl x77)] rfl rfl ?_
          refine ur_ldI rfl rfl ?_
          refine ur_push rfl ?_
          refine ur_if2 rfl (fun c84 => ?_) (fun c84 => ?_)
          · have t85 := ne_to c84
            refine ur_ldI rfl rfl ?_
            have t86 := fO_of (k := 4) (hv76.ko (n := 5) hc1 rfl (wid_f (by decide)) (by decide)) rfl
            have t87 := fO_of (k := 1) (hv76.ko (n := 11) hc6 rfl (wid_f (by decide)) (by decide)) rfl
            exact ur_ret rfl rfl (hQ _ _ ⟨_, rfl, ⟨fun q => absurd (by omega) q, fun _ => ⟨r27, r31, t30.2, t34.2, fun q => absurd (by omega) q, fun _ => ⟨x77.toInt, F83, fun _ => by omega, fun _ => by omega⟩⟩⟩⟩ hO76 hu76 hp75)
          · have t88 := ne_no c84
            refine ur_push rfl ?_
            refine ur_go rfl ?_
            have t89 := fO_of (k := 4) (hv76.ko (n := 5) hc1 rfl (wid_f (by decide)) (by decide)) rfl
            have t90 := fO_of (k := 1) (hv76.ko (n := 11) hc6 rfl (wid_f (by decide)) (by decide)) rfl
            exact ur_ret rfl rfl (hQ _ _ ⟨_, rfl, ⟨fun q => absurd (by omega) q, fun _ => ⟨r27, r31, t30.2, t34.2, fun q => absurd (by omega) q, fun _ => ⟨x77.toInt, F83, fun _ => by omega, fun _ => by omega⟩⟩⟩⟩ hO76 hu76 hp75)
        · have t91 := t67 c68
          clear t66 t67
          refine ur_push rfl ?_
          exact ur_ret rfl rfl (hQ _ _ ⟨_, rfl, ⟨fun q => absurd (by omega) q, fun _ => ⟨r27, r31, t30.2, t34.2, fun _ => by omega, fun q => by exfalso; omega⟩⟩⟩ hO0 un.rf pre1)
      · have t92 := wi_noL c37 l_m60 l_60
        refine ur_push rfl ?_
        exact ur_ret rfl rfl (hQ _ _ ⟨_, rfl, ⟨fun _ => by omega, fun q => by exfalso; omega⟩⟩ hO0 un.rf pre1)

set_option maxRecDepth 20000 in
set_option maxHeartbeats 4000000 in
theorem sd_X11_whose {d kc ks : Nat} {h0 : aH} {Q : Option aV → aH → Prop} {ls : List (List (Int × Int) × List (Int × Int))} {l1 : List (List (Int × Int) × List (Int × Int))} (hO0 : OK h0) (a1 : Int32) (a2 : Int32) (pre0 : NA h0) (pre1 : SGc ls h0) (pre2 : SKc h0) (pre3 : txC h0 9 = cfl 0 ls) (pre4 : ∀ l ∈ ls, lnG l) (pre5 : txC h0 11 = cfl 0 l1) (pre6 : ∀ l ∈ l1, lnG l) (pre7 : RTW h0) (pre8 : LDw h0) (hQ : ∀ r h', (∃ x : Int32, r = some (.inl x) ∧ ((¬ ((0 ≤ a1.toInt ∧ a1.toInt < fO h0 15 1) ∧ (0 ≤ a2.toInt ∧ a2.toInt < fO h0 1 4)) → x.toInt = -2000000000) ∧ (((0 ≤ a1.toInt ∧ a1.toInt < fO h0 15 1) ∧ (0 ≤ a2.toInt ∧ a2.toInt < fO h0 1 4)) → ∃ w z, wz h0 a1.toInt w ∧ cz h0 a2.toInt z ∧ LKf (fO h0 z 8) (fO h0 z 9) (-2000000000) (fun j => FWz ls l1 h0 w z (cf h0 z j)) x.toInt))) → OK h' → un [222, 223, 21212] h0 h' → (SGc ls h') → Q r h') : uCall Mt (d + 7) 141 [(.inr (.inr (some 0))), (.inl a1), (.inl a2)] h0 kc ks Q := by
  have l_m2000000000 : ((-2000000000) : Int32).toInt = -2000000000 := by decide
  have l_m120 : ((-120) : Int32).toInt = -120 := by decide
  have l_m1 : ((-1) : Int32).toInt = -1 := by decide
  have l_0 : ((0) : Int32).toInt = 0 := by decide
  have l_1 : ((1) : Int32).toInt = 1 := by decide
  have l_120 : ((120) : Int32).toInt = 120 := by decide
  refine uc_ink [some (.inr (.inr (some 0))), some (.inl a1), some (.inl a2), none, none, none] mt_141 (Nat.le_of_ble_eq_true rfl) rfl ?_
  obtain ⟨f2, f3, hc1, k4⟩ := ok_1 hO0
  have t5 := fO_of (k := 4) hc1 rfl
  obtain ⟨f7, f8, f9, f10, hc6, k11⟩ := ok_15 hO0
  have t12 := fO_of (k := 1) hc6 rfl
  refine ur_ldA rfl rfl ?_
  obtain ⟨hc13, k14⟩ := ok_0 hO0
  refine ur_get rfl hc13 rfl ?_
  refine ur_ldI rfl rfl ?_
  refine ur_inl rfl (rcv_of hc6) (Nat.le_of_ble_eq_true rfl) (Nat.le_of_ble_eq_true rfl) (se_X1_wordAt hO0 _ pre0 (fun w15 hr16 => ?_))
  obtain ⟨o17, rfl, k18, t19, t20⟩ := hr16
  show uRun _ (uCall Mt _) _ 8 (_, [(.inr (.inr o17))], _, _, _)
  refine ur_svAk [some (.inr (.inr (some 0))), some (.inl a1), some (.inl a2), some (.inr (.inr o17)), none, none] rfl rfl ?_
  refine ur_ldA rfl rfl ?_
  refine ur_get rfl hc13 rfl ?_
  refine ur_ldI rfl rfl ?_
  refine ur_inl rfl (rcv_of hc1) (Nat.le_of_ble_eq_true rfl) (Nat.le_of_ble_eq_true rfl) (sd_X6_cometAt hO0 _ pre2 (fun w21 hr22 => ?_))
  obtain ⟨o23, rfl, k24, t25, t26⟩ := hr22
  show uRun _ (uCall Mt _) _ 17 (_, [(.inr (.inr o23))], _, _, _)
  refine ur_svAk [some (.inr (.inr (some 0))), some (.inl a1), some (.inl a2), some (.inr (.inr o17)), some (.inr (.inr o23)), none] rfl rfl ?_
  refine ur_ldA rfl rfl ?_
  cases o17 with
  | none =>
    refine ur_nulN rfl ?_
    have t28 := t19 rfl
    refine ur_push rfl ?_
    exact ur_ret rfl rfl (hQ _ _ ⟨_, rfl, ⟨fun _ => by omega, fun q => by exfalso; omega⟩⟩ hO0 un.rf pre1)
  | some r27 =>
    refine ur_nulS rfl ?_
    have k29 := k18 _ rfl
    have t30 := t20 _ rfl
    refine ur_ldA rfl rfl ?_
    cases o23 with
    | none =>
      refine ur_nulN rfl ?_
      have t32 := t25 rfl
      refine ur_push rfl ?_
      exact ur_ret rfl rfl (hQ _ _ ⟨_, rfl, ⟨fun _ => by omega, fun q => by exfalso; omega⟩⟩ hO0 un.rf pre1)
    | some r31 =>
      refine ur_nulS rfl ?_
      have k33 := k24 _ rfl
      have t34 := t26 _ rfl
      obtain ⟨g55, f36, f37, f38, f39, f40, f41, f42, f43, f44, f45, q46, q47, o48, q49, hc35, k50, k51, k52, k53, k54⟩ := hO0.comet k33.2
      have t56 := fO_of (k := 8) hc35 rfl
      have t57 := fO_of (k := 9) hc35 rfl
      have cd58 := (pre1.1 a2.toInt r31 t34.1.1 t34.1.2 t34.2).1
      refine ur_ldA rfl rfl ?_
      refine ur_get rfl hc35 rfl ?_
      refine ur_svIk [some (.inr (.inr (some 0))), some (.inl a1), some (.inl a2), some (.inr (.inr (some r27))), some (.inr (.inr (some r31))), some (.inl f44)] rfl rfl ?_
      have L60 : ∀ (m61 : Nat) (x59 : Int32) (h63 : aH) , OK h63 → un [222, 223, 21212] h0 h63 → ((-60 ≤ x59.toInt ∧ x59.toInt ≤ 61) ∧ fO h0 r31 8 ≤ x59.toInt ∧ x59.toInt ≤ fO h0 r31 9 + 1) → (LKq (fO h0 r31 8) x59.toInt (fun j => FWz ls l1 h0 r27 r31 (cf h0 r31 j))) → (SGc ls h63) → ((62 - x59.toInt).toNat) < m61 → uRun oX11_whose (uCall Mt (d + 6)) Q 38 ([some (.inr (.inr (some 0))), some (.inl a1), some (.inl a2), some (.inr (.inr (some r27))), some (.inr (.inr (some r31))), some (.inl x59)], [], h63, kc, ks) := by
        intro m61
        induction m61 with
        | zero => intro x59 h63 hO63 hu63 iv66 px64 px65 mm67; omega
        | succ m61 ih62 =>
          intro x59 h63 hO63 hu63 iv66 px64 px65 mm67
          refine ur_ldI rfl rfl ?_
          refine ur_ldA rfl rfl ?_
          obtain ⟨g88, f69, f70, f71, f72, f73, f74, f75, f76, f77, f78, q79, q80, o81, q82, hc68, k83, k84, k85, k86, k87⟩ := hO63.comet (hu63.tm k33.2 (by decide))
          refine ur_get rfl hc68 rfl ?_
          have t89 := fO_of (k := 8) hc68 rfl
          have tt90 : fO h63 r31 8 = fO h0 r31 8 := fO_eA (fC_un hO0 hu63 g88 k33.2 (k := 8) (by decide) (by decide))
          have t91 := fO_of (k := 9) hc68 rfl
          have tt92 : fO h63 r31 9 = fO h0 r31 9 := fO_eA (fC_un hO0 hu63 g88 k33.2 (k := 9) (by decide) (by decide))
          have z93 := any_r x59
          have z94 := any_r f78
          refine ur_if2 rfl (fun c95 => ?_) (fun c95 => ?_)
          · have t96 := lt_to c95
            refine ur_push rfl ?_
            have t97 := fO_of (k := 4) (hu63.ko (n := 5) hc1 rfl (wid_f (by decide)) (by decide)) rfl
            have t98 := fO_of (k := 1) (hu63.ko (n := 11) hc6 rfl (wid_f (by decide)) (by decide)) rfl
            exact ur_ret rfl rfl (hQ _ _ ⟨_, rfl, ⟨fun q => absurd (by omega) q, fun _ => ⟨r27, r31, t30.2, t34.2, Or.inl ⟨by omega, (by have q := px64; rw [show x59.toInt = fO h0 r31 9 + 1 by omega] at q; exact q)⟩⟩⟩⟩ hO63 hu63 px65)
          · have t99 := lt_no c95
            refine ur_ldA rfl rfl ?_
            refine ur_get rfl (hu63.ko (n := 8) hc13 rfl (wid_f (by decide)) (by decide)) rfl ?_
            refine ur_ldA rfl rfl ?_
            refine ur_ldA rfl rfl ?_
            refine ur_ldI rfl rfl ?_
            refine ur_push rfl ?_
            refine ur_push rfl ?_
            refine ur_push rfl ?_
            obtain ⟨f101, hc100, k102⟩ := ok_8 hO63
            refine ur_inl rfl (rcv_of hc100) (Nat.le_of_ble_eq_true rfl) (Nat.le_of_ble_eq_true rfl) (sd_X5_fitDay hO63 k29.1 (hu63.tm k29.2 (by decide)) g88 (hu63.tm k33.2 (by decide)) _ (by show -60 ≤ x59.toInt ∧ x59.toInt ≤ 60; omega) _ (by show -1000000 ≤ (0 : Int32).toInt ∧ (0 : Int32).toInt ≤ 1000000; omega) _ (by show -120 ≤ ((-120) : Int32).toInt ∧ ((-120) : Int32).toInt ≤ 120; omega) _ (by show -120 ≤ (120 : Int32).toInt ∧ (120 : Int32).toInt ≤ 120; omega) (pre2.un hO0 hO63 hu63 (by decide)) px65 (cz_un hO0 hO63 hu63 t34 (by decide) (by decide)) ((txC_un hO0 hO63 hu63 (by decide) 9 (by decide)).trans pre3) pre4 ((txC_un hO0 hO63 hu63 (by decide) 11 (by decide)).trans pre5) pre6 (wz_un hO0 hO63 hu63 t30 (by decide) (by decide)) (pre7.un hO0 hO63 hu63 (by decide)) (pre8.un hO0 hO63 hu63 (by decide)) (by rw [fO_eA (fC_un hO0 hu63 g88 k33.2 (k := 8) (by decide) (by decide)), fO_eA (fC_un hO0 hu63 g88 k33.2 (k := 9) (by decide) (by decide))]; omega) (fun w103 h106 hr104 hO106 hv106 hp105 => ?_))
            have hu106 := hv106
            obtain ⟨x107, rfl, f108⟩ := hr104
            show uRun _ (uCall Mt _) _ 65 (_, [(.inl x107)], _, _, _)
            obtain ⟨⟨r109, rr110, F111⟩, bb112⟩ := f108
            rw [l_0, Int.add_zero, l_m120, l_120] at F111
            have F113 := FCz.of rr110 F111
            have F114 := F113.un hO0 hu63 ⟨k29.1, k29.2⟩ ⟨g88, k33.2⟩ (by decide)
            rw [cf_un hO0 hu63 g88 k33.2 (by decide)] at F114
            refine ur_push rfl ?_
            refine ur_if2 rfl (fun c115 => ?_) (fun c115 => ?_)
            · have t116 := eq_to c115
              refine ur_incV (fun z => [some (.inr (.inr (some 0))), some (.inl a1), some (.inl a2), some (.inr (.inr (some r27))), some (.inr (.inr (some r31))), some (.inl z)]) rfl rfl (fun _ => rfl) (fun x117 e118 => ?_)
              have t119 := ti_add e118 (by omega) (by omega)
              refine ur_go rfl ?_
              have t120 := fO_of (k := 4) (hv106.ko (n := 5) (hu63.ko (n := 5) hc1 rfl (wid_f (by decide)) (by decide)) rfl (wid_f (by decide)) (by decide)) rfl
              have t121 := fO_of (k := 1) (hv106.ko (n := 11) (hu63.ko (n := 11) hc6 rfl (wid_f (by decide)) (by decide)) rfl (wid_f (by decide)) (by decide)) rfl
              have z122 := any_r x117
              exact ih62 x117 _ hO106 (hu63.tr hu106) (by omega) (px64.s (fun ⟨_, f, n⟩ => n ((f.u F114).trans (by omega))) (by omega)) hp105 (by omega)
            · have t123 := eq_no c115
              refine ur_ldI rfl rfl ?_
              have t124 := fO_of (k := 4) (hv106.ko (n := 5) (hu63.ko (n := 5) hc1 rfl (wid_f (by decide)) (by decide)) rfl (wid_f (by decide)) (by decide)) rfl
              have t125 := fO_of (k := 1) (hv106.ko (n := 11) (hu63.ko (n := 11) hc6 rfl (wid_f (by decide)) (by decide)) rfl (wid_f (by decide)) (by decide)) rfl
              exact ur_ret rfl rfl (hQ _ _ ⟨_, rfl, ⟨fun q => absurd (by omega) q, fun _ => ⟨r27, r31, t30.2, t34.2, Or.inr ⟨by omega, ⟨x107.toInt, F114, by omega⟩, px64⟩⟩⟩⟩ hO106 (hu63.tr hu106) hp105)
      have z126 := any_r f44
      exact L60 _ f44 _ hO0 un.rf (by omega) (LKq.z (by omega)) pre1 (Nat.lt_succ_self _)

set_option maxRecDepth 20000 in
set_option maxHeartbeats 4000000 in
theorem se_X12_fits {d kc ks : Nat} {h0 : aH} {Q : Option aV → aH → Prop} {ls : List (List (Int × Int) × List (Int × Int))} {l1 : List (List (Int × Int) × List (Int × Int))} {M : Nat → List (List (Int × Int) × List (Int × Int))} (hO0 : OK h0) (hX0 : SX h0) (a1 : Int32) (a2 : Int32) (a3 : Int32) (pre0 : SKm h0) (pre1 : RLn h0 0 ls) (pre2 : ∀ l ∈ ls, lnG l) (pre3 : RXF h0 M) (pre4 : SLm h0) (pre5 : RLn h0 1 l1) (pre6 : ∀ l ∈ l1, lnG l) (pre7 : LDm h0) (hQ : ∀ r h', (∃ x : Int32, r = some (.inl x) ∧ ((¬ ((0 ≤ a1.toInt ∧ a1.toInt < fI h0 38) ∧ (0 ≤ a2.toInt ∧ a2.toInt < fI h0 4) ∧ (-60 ≤ a3.toInt ∧ a3.toInt ≤ 60)) → x.toInt = -1) ∧ (((0 ≤ a1.toInt ∧ a1.toInt < fI h0 38) ∧ (0 ≤ a2.toInt ∧ a2.toInt < fI h0 4) ∧ (-60 ≤ a3.toInt ∧ a3.toInt ≤ 60)) → ∃ t, retV (NMh h0 (gI h0 73 a2.toInt)) (gI h0 73 a2.toInt) (gI h0 72 a2.toInt) a3.toInt t ∧ (t < 0 → x.toInt = -2) ∧ (0 ≤ t → ∃ y, FMz ls l1 h0 M a1.toInt a2.toInt t 0 (fun d => 0 ≤ d) y ∧ (y = -1 → x.toInt = -2) ∧ (y ≠ -1 → x.toInt = y))))) → OK h' → un [80, 81] h0 h' → (SKm h') → Q r h') : uCall Mt (d + 8) 252 [(.inr (.inr (some 69))), (.inl a1), (.inl a2), (.inl a3)] h0 kc ks Q := by
  have l_m60 : ((-60) : Int32).toInt = -60 := by decide
  have l_m2 : ((-2) : Int32).toInt = -2 := by decide
  have l_m1 : ((-1) : Int32).toInt = -1 := by decide
  have l_0 : ((0) : Int32).toInt = 0 := by decide
  have l_60 : ((60) : Int32).toInt = 60 := by decide
  refine uc_ink [some (.inr (.inr (some 69))), some (.inl a1), some (.inl a2), some (.inl a3), none, none] mt_252 (Nat.le_of_ble_eq_true rfl) rfl ?_
  obtain ⟨fs1, hc2⟩ := hO0.mod
  obtain ⟨f3, p4, t5⟩ := mf_4 hO0 hc2
  have t6 := fI_of hc2 p4
  obtain ⟨f7, p8, t9⟩ := mf_38 hO0 hc2
  have t10 := fI_of hc2 p8
  refine ur_ldA rfl rfl ?_
  refine ur_ldI rfl rfl ?_
  refine ur_inl rfl (rcv_of hc2) (Nat.le_of_ble_eq_true rfl) (Nat.le_of_ble_eq_true rfl) (sd_X12_isWord hO0 _ (fun w11 hr12 => ?_))
  obtain ⟨b13, rfl, t14, t15⟩ := hr12
  show uRun _ (uCall Mt _) _ 5 (_, [(.inl (bi b13))], _, _, _)
  refine ur_eqB rfl (fun c16 => ?_) (fun c16 => ?_)
  · have t17 := t15 c16
    clear t14 t15
    refine ur_push rfl ?_
    exact ur_ret rfl rfl (hQ _ _ ⟨_, rfl, ⟨fun _ => by omega, fun q => by exfalso; omega⟩⟩ hO0 un.rf pre0)
  · have t18 := t14 c16
    clear t14 t15
    refine ur_ldA rfl rfl ?_
    refine ur_ldI rfl rfl ?_
    refine ur_inl rfl (rcv_of hc2) (Nat.le_of_ble_eq_true rfl) (Nat.le_of_ble_eq_true rfl) (sd_X12_isComet hO0 _ (fun w19 hr20 => ?_))
    obtain ⟨b21, rfl, t22, t23⟩ := hr20
    show uRun _ (uCall Mt _) _ 13 (_, [(.inl (bi b21))], _, _, _)
    refine ur_eqB rfl (fun c24 => ?_) (fun c24 => ?_)
    · have t25 := t23 c24
      clear t22 t23
      refine ur_push rfl ?_
      exact ur_ret rfl rfl (hQ _ _ ⟨_, rfl, ⟨fun _ => by omega, fun q => by exfalso; omega⟩⟩ hO0 un.rf pre0)
    · have t26 := t22 c24
      clear t22 t23
      refine ur_ldI rfl rfl ?_
      refine ur_callv rfl rfl (Nat.le_of_ble_eq_true rfl) (Nat.le_of_ble_eq_true rfl) rfl (sq_isRet _ _) ?_
      refine ur_neB rfl (fun c29 => ?_) (fun c29 => ?_)
      · have t30 := wi_toL c29 l_m60 l_60
        refine ur_ldA rfl rfl ?_
        refine ur_ldI rfl rfl ?_
        refine ur_ldI rfl rfl ?_
        refine ur_inl rfl (rcv_of hc2) (Nat.le_of_ble_eq_true rfl) (Nat.le_of_ble_eq_true rfl) (sd_X12_passOf hO0 hX0 _ (by show 0 ≤ a2.toInt ∧ a2.toInt ≤ 11; omega) _ (by show -60 ≤ a3.toInt ∧ a3.toInt ≤ 60; omega) pre0 (by omega) (fun w31 h34 hr32 hO34 hv34 hp33 => ?_))
        have hu34 := hv34
        obtain ⟨x35, rfl, f36⟩ := hr32
        show uRun _ (uCall Mt _) _ 31 (_, [(.inl x35)], _, _, _)
        refine ur_svIk [some (.inr (.inr (some 69))), some (.inl a1), some (.inl a2), some (.inl a3), some (.inl x35), none] rfl rfl ?_
        refine ur_ldI rfl rfl ?_
        refine ur_if1 rfl (fun c37 => ?_) (fun c37 => ?_)
        · have t38 := le_to c37
          refine ur_ldA rfl rfl ?_
          refine ur_ldI rfl rfl ?_
          refine ur_ldI rfl rfl ?_
          refine ur_ldI rfl rfl ?_
          refine ur_push rfl ?_
          refine ur_push rfl ?_
          obtain ⟨fs39, hc40⟩ := hO34.mod
          obtain ⟨f41, p42, t43⟩ := mf_4 hO34 hc40
          have t44 := fI_of hc40 p42
          obtain ⟨f45, p46, t47⟩ := mf_38 hO34 hc40
          have t48 := fI_of hc40 p46
          obtain ⟨f49, p50⟩ := mf_15 hO34 hc40
          have t51 := fI_of hc40 p50
          obtain ⟨f52, p53⟩ := mf_16 hO34 hc40
          have t54 := fI_of hc40 p53
          obtain ⟨f55, p56⟩ := mf_17 hO34 hc40
          have t57 := fI_of hc40 p56
          obtain ⟨f58, p59⟩ := mf_50 hO34 hc40
          have t60 := fI_of hc40 p59
          obtain ⟨f61, p62⟩ := mf_51 hO34 hc40
          have t63 := fI_of hc40 p62
          obtain ⟨f64, p65⟩ := mf_52 hO34 hc40
          have t66 := fI_of hc40 p65
          obtain ⟨f67, p68⟩ := mf_53 hO34 hc40
          have t69 := fI_of hc40 p68
          have t70 := fI_keep (k := 4) hO0 hO34 hu34 rfl (by decide)
          have t71 := fI_keep (k := 38) hO0 hO34 hu34 rfl (by decide)
          refine ur_inl rfl (rcv_of hc40) (Nat.le_of_ble_eq_true rfl) (Nat.le_of_ble_eq_true rfl) (sd_X12_fitDay hO34 (hX0.un hO0 hO34 hu34 (by decide)) _ (by show 0 ≤ a1.toInt ∧ a1.toInt ≤ 149; omega) _ (by show 0 ≤ a2.toInt ∧ a2.toInt ≤ 11; omega) _ (by show -20000 ≤ x35.toInt ∧ x35.toInt ≤ 1020000; omega) _ (by show -400 ≤ (0 : Int32).toInt ∧ (0 : Int32).toInt ≤ 400; omega) _ (by show 0 ≤ (0 : Int32).toInt ∧ (0 : Int32).toInt ≤ 1000000; omega) hp33 (by omega) (by omega) (pre1.keep (KN.un hO0 hu34 (by decide) (by decide) (by decide) (by decide) (by decide)) (by decide)) pre2 (rxf_uw pre3 hO0 hu34 (by decide)) (pre4.un hO0 hO34 hu34 (by decide) (by decide)) (pre5.keep (KN.un hO0 hu34 (by decide) (by decide) (by decide) (by decide) (by decide)) (by decide)) pre6 (pre7.un hO0 hO34 hu34 (by decide) (by decide)) (fun w72 h74 hr73 hO74 hv74 => ?_))
          have hu74 : un [80, 81] h34 h74 := hv74.mono (by decide)
          obtain ⟨x75, rfl, f76⟩ := hr73
          show uRun _ (uCall Mt _) _ 52 (_, [(.inl x75)], _, _, _)
          have F77 := f76.1
          rw [l_0] at F77
          have F78 := FMz.un (ls := ls) (l1 := l1) (M := M) (w := a1.toInt) (c := a2.toInt) (mv := 0) F77 hO0 hu34 (rt_c (CEm_of hO0 hX0) (KWm.un hO0 hu34 (by decide)) (by omega) (by omega)) (by decide)
          refine ur_svIk [some (.inr (.inr (some 69))), some (.inl a1), some (.inl a2), some (.inl a3), some (.inl x35), some (.inl x75)] rfl rfl ?_
          refine ur_ldI rfl rfl ?_
          refine ur_if1 rfl (fun c79 => ?_) (fun c79 => ?_)
          · have t80 := le_to c79
            refine ur_ldI rfl rfl ?_
            obtain ⟨fs81, hc82⟩ := hO74.mod
            obtain ⟨f83, p84, t85⟩ := mf_4 hO74 hc82
            have t86 := fI_of hc82 p84
            obtain ⟨f87, p88, t89⟩ := mf_38 hO74 hc82
            have t90 := fI_of hc82 p88
            have t91 := fI_keep (k := 4) hO0 hO74 (hu34.tr hu74) rfl (by decide)
            have t92 := fI_keep (k := 38) hO0 hO74 (hu34.tr hu74) rfl (by decide)
            exact ur_ret rfl rfl (hQ _ _ ⟨_, rfl, ⟨fun q => absurd (by omega) q, fun _ => ⟨x35.toInt, f36.1, fun q => by exfalso; omega, fun _ => ⟨x75.toInt, F78, fun _ => by omega, fun _ => by omega⟩⟩⟩⟩ hO74 (hu34.tr hu74) (hp33.un hO34 hO74 hv74 (by decide)))
          · have t93 := le_no c79
            refine ur_push rfl ?_
            refine ur_go rfl ?_
            obtain ⟨fs94, hc95⟩ := hO74.mod
            obtain ⟨f96, p97, t98⟩ := mf_4 hO74 hc95
            have t99 := fI_of hc95 p97
            obtain ⟨f100, p101, t102⟩ := mf_38 hO74 hc95
            have t103 := fI_of hc95 p101
            have t104 := fI_keep (k := 4) hO0 hO74 (hu34.tr hu74) rfl (by decide)
            have t105 := fI_keep (k := 38) hO0 hO74 (hu34.tr hu74) rfl (by decide)
            exact ur_ret rfl rfl (hQ _ _ ⟨_, rfl, ⟨fun q => absurd (by omega) q, fun _ => ⟨x35.toInt, f36.1, fun q => by exfalso; omega, fun _ => ⟨x75.toInt, F78, fun _ => by omega, fun _ => by omega⟩⟩⟩⟩ hO74 (hu34.tr hu74) (hp33.un hO34 hO74 hv74 (by decide)))
        · have t106 := le_no c37
          refine ur_push rfl ?_
          refine ur_go rfl ?_
          refine ur_svIk [some (.inr (.inr (some 69))), some (.inl a1), some (.inl a2), some (.inl a3), some (.inl x35), some (.inl (-1))] rfl rfl ?_
          refine ur_ldI rfl rfl ?_
          refine ur_if1f rfl (by decide) ?_
          refine ur_push rfl ?_
          refine ur_go rfl ?_
          obtain ⟨fs107, hc108⟩ := hO34.mod
          obtain ⟨f109, p110, t111⟩ := mf_4 hO34 hc108
          have t112 := fI_of hc108 p110
          obtain ⟨f113, p114, t115⟩ := mf_38 hO34 hc108
          have t116 := fI_of hc108 p114
          have t117 := fI_keep (k := 4) hO0 hO34 hu34 rfl (by decide)
          have t118 := fI_keep (k := 38) hO0 hO34 hu34 rfl (by decide)
          exact ur_ret rfl rfl (hQ _ _ ⟨_, rfl, ⟨fun q => absurd (by omega) q, fun _ => ⟨x35.toInt, f36.1, fun _ => by omega, fun q => by exfalso; omega⟩⟩⟩ hO34 hu34 hp33)
      · have t119 := wi_noL c29 l_m60 l_60
        refine ur_push rfl ?_
        exact ur_ret rfl rfl (hQ _ _ ⟨_, rfl, ⟨fun _ => by omega, fun q => by exfalso; omega⟩⟩ hO0 un.rf pre0)

set_option maxRecDepth 20000 in
set_option maxHeartbeats 4000000 in
theorem se_X12_whoseBy {d kc ks : Nat} {h0 : aH} {Q : Option aV → aH → Prop} {ls : List (List (Int × Int) × List (Int × Int))} {l1 : List (List (Int × Int) × List (Int × Int))} {M : Nat → List (List (Int × Int) × List (Int × Int))} (hO0 : OK h0) (hX0 : SX h0) (a1 : Int32) (b1 : 0 ≤ a1.toInt ∧ a1.toInt ≤ 149) (a2 : Int32) (b2 : 0 ≤ a2.toInt ∧ a2.toInt ≤ 11) (a3 : Int32) (b3 : -400 ≤ a3.toInt ∧ a3.toInt ≤ 400) (pre0 : SKm h0) (pre1 : a1.toInt < fI h0 38) (pre2 : a2.toInt < fI h0 4) (pre3 : RLn h0 0 ls) (pre4 : ∀ l ∈ ls, lnG l) (pre5 : RXF h0 M) (pre6 : SLm h0) (pre7 : RLn h0 1 l1) (pre8 : ∀ l ∈ l1, lnG l) (pre9 : LDm h0) (hQ : ∀ r h', (∃ x : Int32, r = some (.inl x) ∧ (LRf 61 (fun j t => retV (NMh h0 (gI h0 73 a2.toInt)) (gI h0 73 a2.toInt) (gI h0 72 a2.toInt) j t) (FWm ls l1 h0 M a1.toInt a2.toInt a3.toInt) x.toInt ∧ -60 ≤ x.toInt ∧ x.toInt ≤ 61)) → OK h' → un [80, 81] h0 h' → (SKm h') → Q r h') : uCall Mt (d + 8) 254 [(.inr (.inr (some 69))), (.inl a1), (.inl a2), (.inl a3)] h0 kc ks Q := by
  have l_m60 : ((-60) : Int32).toInt = -60 := by decide
  have l_0 : ((0) : Int32).toInt = 0 := by decide
  have l_1 : ((1) : Int32).toInt = 1 := by decide
  have l_60 : ((60) : Int32).toInt = 60 := by decide
  have l_61 : ((61) : Int32).toInt = 61 := by decide
  refine uc_ink [some (.inr (.inr (some 69))), some (.inl a1), some (.inl a2), some (.inl a3), none, none] mt_254 (Nat.le_of_ble_eq_true rfl) rfl ?_
  obtain ⟨fs1, hc2⟩ := hO0.mod
  obtain ⟨f3, p4, t5⟩ := mf_4 hO0 hc2
  have t6 := fI_of hc2 p4
  obtain ⟨f7, p8, t9⟩ := mf_38 hO0 hc2
  have t10 := fI_of hc2 p8
  refine ur_push rfl ?_
  refine ur_svIk [some (.inr (.inr (some 69))), some (.inl a1), some (.inl a2), some (.inl a3), some (.inl (-60)), none] rfl rfl ?_
  have L13 : ∀ (m14 : Nat) (x11 : Int32) (u12 : Option aV) (h16 : aH) , OK h16 → un [80, 81] h0 h16 → ((-60 ≤ x11.toInt ∧ x11.toInt ≤ 61)) → (LRq (-60) x11.toInt (fun j t => retV (NMh h0 (gI h0 73 a2.toInt)) (gI h0 73 a2.toInt) (gI h0 72 a2.toInt) j t) (FWm ls l1 h0 M a1.toInt a2.toInt a3.toInt)) → (SKm h16) → ((62 - x11.toInt).toNat) < m14 → uRun oX12_whoseBy (uCall Mt (d + 7)) Q 4 ([some (.inr (.inr (some 69))), some (.inl a1), some (.inl a2), some (.inl a3), some (.inl x11), u12], [], h16, kc, ks) := by
    intro m14
    induction m14 with
    | zero => intro x11 u12 h16 hO16 hu16 iv19 px17 px18 mm20; omega
    | succ m14 ih15 =>
      intro x11 u12 h16 hO16 hu16 iv19 px17 px18 mm20
      refine ur_ldI rfl rfl ?_
      refine ur_push rfl ?_
      refine ur_if2 rfl (fun c21 => ?_) (fun c21 => ?_)
      · have t22 := lt_to c21
        refine ur_push rfl ?_
        obtain ⟨fs23, hc24⟩ := hO16.mod
        obtain ⟨f25, p26, t27⟩ := mf_4 hO16 hc24
        have t28 := fI_of hc24 p26
        obtain ⟨f29, p30, t31⟩ := mf_38 hO16 hc24
        have t32 := fI_of hc24 p30
        have t33 := fI_keep (k := 4) hO0 hO16 hu16 rfl (by decide)
        have t34 := fI_keep (k := 38) hO0 hO16 hu16 rfl (by decide)
        exact ur_ret rfl rfl (hQ _ _ ⟨_, rfl, ⟨Or.inl ⟨by omega, (by have q := px17; rw [show x11.toInt = 61 by omega] at q; exact q)⟩, by omega⟩⟩ hO16 hu16 px18)
      · have t35 := lt_no c21
        refine ur_ldA rfl rfl ?_
        refine ur_ldI rfl rfl ?_
        refine ur_ldI rfl rfl ?_
        obtain ⟨fs36, hc37⟩ := hO16.mod
        obtain ⟨f38, p39, t40⟩ := mf_4 hO16 hc37
        have t41 := fI_of hc37 p39
        have t42 := fI_keep (k := 4) hO0 hO16 hu16 rfl (by decide)
        have t43 := fI_keep (k := 38) hO0 hO16 hu16 rfl (by decide)
        refine ur_inl rfl (rcv_of hc37) (Nat.le_of_ble_eq_true rfl) (Nat.le_of_ble_eq_true rfl) (sd_X12_passOf hO16 (hX0.un hO0 hO16 hu16 (by decide)) _ (by show 0 ≤ a2.toInt ∧ a2.toInt ≤ 11; omega) _ (by show -60 ≤ x11.toInt ∧ x11.toInt ≤ 60; omega) px18 (by omega) (fun w44 h47 hr45 hO47 hv47 hp46 => ?_))
        have hu47 := hv47
        obtain ⟨x48, rfl, f49⟩ := hr45
        show uRun _ (uCall Mt _) _ 18 (_, [(.inl x48)], _, _, _)
        refine ur_svIk [some (.inr (.inr (some 69))), some (.inl a1), some (.inl a2), some (.inl a3), some (.inl x11), some (.inl x48)] rfl rfl ?_
        refine ur_ldI rfl rfl ?_
        refine ur_if1 rfl (fun c50 => ?_) (fun c50 => ?_)
        · have t51 := lt_to c50
          refine ur_incV (fun z => [some (.inr (.inr (some 69))), some (.inl a1), some (.inl a2), some (.inl a3), some (.inl z), some (.inl x48)]) rfl rfl (fun _ => rfl) (fun x52 e53 => ?_)
          have z54 := any_r x11
          have t55 := ti_add e53 (by omega) (by omega)
          refine ur_go rfl ?_
          obtain ⟨fs56, hc57⟩ := hO47.mod
          obtain ⟨f58, p59, t60⟩ := mf_4 hO47 hc57
          have t61 := fI_of hc57 p59
          obtain ⟨f62, p63, t64⟩ := mf_38 hO47 hc57
          have t65 := fI_of hc57 p63
          have z66 := any_r x52
          exact ih15 x52 _ _ hO47 (hu16.tr hu47) (by omega) (px17.s (by have q := f49.1; rw [gI_keep (a := 73) (kd := 0) (n := 12) hO0 hu16 a2.toInt (by decide) rfl (by decide) rfl (by decide) (by decide), gI_keep (a := 72) (kd := 0) (n := 12) hO0 hu16 a2.toInt (by decide) rfl (by decide) rfl (by decide) (by decide), show NMh h16 (gI h0 73 a2.toInt) = NMh h0 (gI h0 73 a2.toInt) from nxM_un hO0 hO16 hu16 (by decide) (by decide) (by decide) _] at q; exact q) (fun q => by have k := q.1; omega) (by omega)) hp46 (by omega)
        · have t67 := lt_no c50
          refine ur_ldA rfl rfl ?_
          refine ur_ldI rfl rfl ?_
          refine ur_ldI rfl rfl ?_
          refine ur_ldI rfl rfl ?_
          refine ur_ldI rfl rfl ?_
          refine ur_push rfl ?_
          obtain ⟨fs68, hc69⟩ := hO47.mod
          obtain ⟨f70, p71, t72⟩ := mf_4 hO47 hc69
          have t73 := fI_of hc69 p71
          obtain ⟨f74, p75, t76⟩ := mf_38 hO47 hc69
          have t77 := fI_of hc69 p75
          obtain ⟨f78, p79⟩ := mf_15 hO47 hc69
          have t80 := fI_of hc69 p79
          obtain ⟨f81, p82⟩ := mf_16 hO47 hc69
          have t83 := fI_of hc69 p82
          obtain ⟨f84, p85⟩ := mf_17 hO47 hc69
          have t86 := fI_of hc69 p85
          obtain ⟨f87, p88⟩ := mf_50 hO47 hc69
          have t89 := fI_of hc69 p88
          obtain ⟨f90, p91⟩ := mf_51 hO47 hc69
          have t92 := fI_of hc69 p91
          obtain ⟨f93, p94⟩ := mf_52 hO47 hc69
          have t95 := fI_of hc69 p94
          obtain ⟨f96, p97⟩ := mf_53 hO47 hc69
          have t98 := fI_of hc69 p97
          have t99 := fI_keep (k := 4) hO0 hO47 (hu16.tr hu47) rfl (by decide)
          have t100 := fI_keep (k := 38) hO0 hO47 (hu16.tr hu47) rfl (by decide)
          refine ur_inl rfl (rcv_of hc69) (Nat.le_of_ble_eq_true rfl) (Nat.le_of_ble_eq_true rfl) (sd_X12_fitDay hO47 (hX0.un hO0 hO47 (hu16.tr hu47) (by decide)) _ (by show 0 ≤ a1.toInt ∧ a1.toInt ≤ 149; omega) _ (by show 0 ≤ a2.toInt ∧ a2.toInt ≤ 11; omega) _ (by show -20000 ≤ x48.toInt ∧ x48.toInt ≤ 1020000; omega) _ (by show -400 ≤ a3.toInt ∧ a3.toInt ≤ 400; omega) _ (by show 0 ≤ (0 : Int32).toInt ∧ (0 : Int32).toInt ≤ 1000000; omega) hp46 (by omega) (by omega) (pre3.keep (KN.un hO0 (hu16.tr hu47) (by decide) (by decide) (by decide) (by decide) (by decide)) (by decide)) pre4 (rxf_uw pre5 hO0 (hu16.tr hu47) (by decide)) (pre6.un hO0 hO47 (hu16.tr hu47) (by decide) (by decide)) (pre7.keep (KN.un hO0 (hu16.tr hu47) (by decide) (by decide) (by decide) (by decide) (by decide)) (by decide)) pre8 (pre9.un hO0 hO47 (hu16.tr hu47) (by decide) (by decide)) (fun w101 h103 hr102 hO103 hv103 => ?_))
          have hu103 : un [80, 81] h47 h103 := hv103.mono (by decide)
          obtain ⟨x104, rfl, f105⟩ := hr102
          show uRun _ (uCall Mt _) _ 35 (_, [(.inl x104)], _, _, _)
          have F106 := f105.1
          rw [l_0] at F106
          have F107 := FMz.un (ls := ls) (l1 := l1) (M := M) (w := a1.toInt) (c := a2.toInt) (mv := a3.toInt) F106 hO0 (hu16.tr hu47) (rt_c (CEm_of hO0 hX0) (KWm.un hO0 (hu16.tr hu47) (by decide)) (by omega) (by omega)) (by decide)
          refine ur_if1 rfl (fun c108 => ?_) (fun c108 => ?_)
          · have t109 := lt_to c108
            refine ur_incV (fun z => [some (.inr (.inr (some 69))), some (.inl a1), some (.inl a2), some (.inl a3), some (.inl z), some (.inl x48)]) rfl rfl (fun _ => rfl) (fun x110 e111 => ?_)
            have z112 := any_r x11
            have t113 := ti_add e111 (by omega) (by omega)
            refine ur_go rfl ?_
            obtain ⟨fs114, hc115⟩ := hO103.mod
            obtain ⟨f116, p117, t118⟩ := mf_4 hO103 hc115
            have t119 := fI_of hc115 p117
            obtain ⟨f120, p121, t122⟩ := mf_38 hO103 hc115
            have t123 := fI_of hc115 p121
            have z124 := any_r x110
            exact ih15 x110 _ _ hO103 (hu16.tr (hu47.tr hu103)) (by omega) (px17.s (by have q := f49.1; rw [gI_keep (a := 73) (kd := 0) (n := 12) hO0 hu16 a2.toInt (by decide) rfl (by decide) rfl (by decide) (by decide), gI_keep (a := 72) (kd := 0) (n := 12) hO0 hu16 a2.toInt (by decide) rfl (by decide) rfl (by decide) (by decide), show NMh h16 (gI h0 73 a2.toInt) = NMh h0 (gI h0 73 a2.toInt) from nxM_un hO0 hO16 hu16 (by decide) (by decide) (by decide) _] at q; exact q) (fun ⟨_, _, f, n⟩ => n ((f.u F107).trans (by omega))) (by omega)) (hp46.un hO47 hO103 hv103 (by decide)) (by omega)
          · have t125 := lt_no c108
            refine ur_ldI rfl rfl ?_
            obtain ⟨fs126, hc127⟩ := hO103.mod
            obtain ⟨f128, p129, t130⟩ := mf_4 hO103 hc127
            have t131 := fI_of hc127 p129
            obtain ⟨f132, p133, t134⟩ := mf_38 hO103 hc127
            have t135 := fI_of hc127 p133
            have t136 := fI_keep (k := 4) hO0 hO103 (hu16.tr (hu47.tr hu103)) rfl (by decide)
            have t137 := fI_keep (k := 38) hO0 hO103 (hu16.tr (hu47.tr hu103)) rfl (by decide)
            exact ur_ret rfl rfl (hQ _ _ ⟨_, rfl, ⟨Or.inr ⟨by omega, ⟨x48.toInt, (by have q := f49.1; rw [gI_keep (a := 73) (kd := 0) (n := 12) hO0 hu16 a2.toInt (by decide) rfl (by decide) rfl (by decide) (by decide), gI_keep (a := 72) (kd := 0) (n := 12) hO0 hu16 a2.toInt (by decide) rfl (by decide) rfl (by decide) (by decide), show NMh h16 (gI h0 73 a2.toInt) = NMh h0 (gI h0 73 a2.toInt) from nxM_un hO0 hO16 hu16 (by decide) (by decide) (by decide) _] at q; exact q), by omega, ⟨x104.toInt, F107, by omega⟩⟩, px17⟩, by omega⟩⟩ hO103 (hu16.tr (hu47.tr hu103)) (hp46.un hO47 hO103 hv103 (by decide)))
  exact L13 _ (-60) (none) _ hO0 un.rf (by omega) (LRq.z (by omega)) pre0 (Nat.lt_succ_self _)

set_option maxRecDepth 20000 in
set_option maxHeartbeats 4000000 in
theorem se_X12_whose {d kc ks : Nat} {h0 : aH} {Q : Option aV → aH → Prop} {ls : List (List (Int × Int) × List (Int × Int))} {l1 : List (List (Int × Int) × List (Int × Int))} {M : Nat → List (List (Int × Int) × List (Int × Int))} (hO0 : OK h0) (hX0 : SX h0) (a1 : Int32) (a2 : Int32) (pre0 : SKm h0) (pre1 : RLn h0 0 ls) (pre2 : ∀ l ∈ ls, lnG l) (pre3 : RXF h0 M) (pre4 : SLm h0) (pre5 : RLn h0 1 l1) (pre6 : ∀ l ∈ l1, lnG l) (pre7 : LDm h0) (hQ : ∀ r h', (∃ x : Int32, r = some (.inl x) ∧ ((¬ ((0 ≤ a1.toInt ∧ a1.toInt < fI h0 38) ∧ (0 ≤ a2.toInt ∧ a2.toInt < fI h0 4)) → x.toInt = -2000000000) ∧ (((0 ≤ a1.toInt ∧ a1.toInt < fI h0 38) ∧ (0 ≤ a2.toInt ∧ a2.toInt < fI h0 4)) → LRf (-2000000000) (fun j t => retV (NMh h0 (gI h0 73 a2.toInt)) (gI h0 73 a2.toInt) (gI h0 72 a2.toInt) j t) (FWm ls l1 h0 M a1.toInt a2.toInt 0) x.toInt))) → OK h' → un [80, 81] h0 h' → (SKm h') → Q r h') : uCall Mt (d + 9) 255 [(.inr (.inr (some 69))), (.inl a1), (.inl a2)] h0 kc ks Q := by
  have l_m2000000000 : ((-2000000000) : Int32).toInt = -2000000000 := by decide
  have l_0 : ((0) : Int32).toInt = 0 := by decide
  have l_60 : ((60) : Int32).toInt = 60 := by decide
  refine uc_ink [some (.inr (.inr (some 69))), some (.inl a1), some (.inl a2), none] mt_255 (Nat.le_of_ble_eq_true rfl) rfl ?_
  obtain ⟨fs1, hc2⟩ := hO0.mod
  obtain ⟨f3, p4, t5⟩ := mf_4 hO0 hc2
  have t6 := fI_of hc2 p4
  obtain ⟨f7, p8, t9⟩ := mf_38 hO0 hc2
  have t10 := fI_of hc2 p8
  refine ur_ldA rfl rfl ?_
  refine ur_ldI rfl rfl ?_
  refine ur_inl rfl (rcv_of hc2) (Nat.le_of_ble_eq_true rfl) (Nat.le_of_ble_eq_true rfl) (sd_X12_isWord hO0 _ (fun w11 hr12 => ?_))
  obtain ⟨b13, rfl, t14, t15⟩ := hr12
  show uRun _ (uCall Mt _) _ 5 (_, [(.inl (bi b13))], _, _, _)
  refine ur_eqB rfl (fun c16 => ?_) (fun c16 => ?_)
  · have t17 := t15 c16
    clear t14 t15
    refine ur_push rfl ?_
    exact ur_ret rfl rfl (hQ _ _ ⟨_, rfl, ⟨fun _ => by omega, fun q => by exfalso; omega⟩⟩ hO0 un.rf pre0)
  · have t18 := t14 c16
    clear t14 t15
    refine ur_ldA rfl rfl ?_
    refine ur_ldI rfl rfl ?_
    refine ur_inl rfl (rcv_of hc2) (Nat.le_of_ble_eq_true rfl) (Nat.le_of_ble_eq_true rfl) (sd_X12_isComet hO0 _ (fun w19 hr20 => ?_))
    obtain ⟨b21, rfl, t22, t23⟩ := hr20
    show uRun _ (uCall Mt _) _ 13 (_, [(.inl (bi b21))], _, _, _)
    refine ur_neB rfl (fun c24 => ?_) (fun c24 => ?_)
    · have t25 := t22 c24
      clear t22 t23
      refine ur_ldA rfl rfl ?_
      refine ur_ldI rfl rfl ?_
      refine ur_ldI rfl rfl ?_
      refine ur_push rfl ?_
      refine ur_inl rfl (rcv_of hc2) (Nat.le_of_ble_eq_true rfl) (Nat.le_of_ble_eq_true rfl) (se_X12_whoseBy hO0 hX0 _ (by show 0 ≤ a1.toInt ∧ a1.toInt ≤ 149; omega) _ (by show 0 ≤ a2.toInt ∧ a2.toInt ≤ 11; omega) _ (by show -400 ≤ (0 : Int32).toInt ∧ (0 : Int32).toInt ≤ 400; omega) pre0 (by omega) (by omega) pre1 pre2 pre3 pre4 pre5 pre6 pre7 (fun w26 h29 hr27 hO29 hv29 hp28 => ?_))
      have hu29 := hv29
      obtain ⟨x30, rfl, f31⟩ := hr27
      show uRun _ (uCall Mt _) _ 26 (_, [(.inl x30)], _, _, _)
      refine ur_svIk [some (.inr (.inr (some 69))), some (.inl a1), some (.inl a2), some (.inl x30)] rfl rfl ?_
      refine ur_ldI rfl rfl ?_
      refine ur_push rfl ?_
      refine ur_if2 rfl (fun c32 => ?_) (fun c32 => ?_)
      · have t33 := le_to c32
        refine ur_ldI rfl rfl ?_
        obtain ⟨fs34, hc35⟩ := hO29.mod
        obtain ⟨f36, p37, t38⟩ := mf_4 hO29 hc35
        have t39 := fI_of hc35 p37
        obtain ⟨f40, p41, t42⟩ := mf_38 hO29 hc35
        have t43 := fI_of hc35 p41
        have t44 := fI_keep (k := 4) hO0 hO29 hu29 rfl (by decide)
        have t45 := fI_keep (k := 38) hO0 hO29 hu29 rfl (by decide)
        exact ur_ret rfl rfl (hQ _ _ ⟨_, rfl, ⟨fun q => absurd (by omega) q, fun _ => (by have q := f31.1; rw [l_0] at q; exact q.v (by omega) (by omega))⟩⟩ hO29 hu29 hp28)
      · have t46 := le_no c32
        refine ur_push rfl ?_
        refine ur_go rfl ?_
        obtain ⟨fs47, hc48⟩ := hO29.mod
        obtain ⟨f49, p50, t51⟩ := mf_4 hO29 hc48
        have t52 := fI_of hc48 p50
        obtain ⟨f53, p54, t55⟩ := mf_38 hO29 hc48
        have t56 := fI_of hc48 p54
        have t57 := fI_keep (k := 4) hO0 hO29 hu29 rfl (by decide)
        have t58 := fI_keep (k := 38) hO0 hO29 hu29 rfl (by decide)
        exact ur_ret rfl rfl (hQ _ _ ⟨_, rfl, ⟨fun q => absurd (by omega) q, fun _ => (by have q := f31.1; rw [l_0] at q; exact q.v (by omega) (by omega))⟩⟩ hO29 hu29 hp28)
    · have t59 := t23 c24
      clear t22 t23
      refine ur_push rfl ?_
      exact ur_ret rfl rfl (hQ _ _ ⟨_, rfl, ⟨fun _ => by omega, fun q => by exfalso; omega⟩⟩ hO0 un.rf pre0)
end SG5
