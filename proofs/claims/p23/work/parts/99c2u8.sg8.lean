/-! SIGHT: what else looks; printed by program -/
section SG8
/-! SIGHT: the returns that are near, and what to look for -/
theorem LKq.mono {lo k k' : Int} {P : Int → Prop} (H : LKq lo k P) (h : k' ≤ k) : LKq lo k' P := fun j j0 j1 => H j j0 (by omega)
/-- the returns of a comet that are kept as near to day P -/
def NRn (h : aH) (z : Nat) (P : Int) : Prop := (∀ i : Int, 0 ≤ i → i < fO h 41 14 → fO h z 8 ≤ gI h 51 i ∧ gI h 51 i ≤ fO h z 9) ∧ ∀ j : Int, fO h z 8 ≤ j → j ≤ fO h z 9 → -240 ≤ cf h z j - P → cf h z j - P ≤ 240 → ∃ i : Int, 0 ≤ i ∧ i < fO h 41 14 ∧ gI h 51 i = j
theorem NRn.un {W : List Nat} {h h' : aH} {z : Nat} {P : Int} (H : NRn h z P) (hO : OK h) (hO' : OK h') (g : un W h h') (gz : 114 ≤ z) (t : tg h z = (102, 14)) (w : ∀ k ∈ [51, 221, 5114, 21208, 21209, 21210], k ∉ W) : NRn h' z P := by
  have e8 := fO_eA (fC_un hO g gz t (k := 8) (by decide) (w _ (by decide)))
  have e9 := fO_eA (fC_un hO g gz t (k := 9) (by decide) (w _ (by decide)))
  have n : fO h' 41 14 = fO h 41 14 := fO_keep (a := 41) (ci := 7) (n := 15) (k := 14) hO hO' g (by decide) rfl (by decide) rfl (w _ (by decide))
  have c : ∀ j, cf h' z j = cf h z j := fun j => cf_un hO g gz t (fun k hk => w k (by revert hk; revert k; decide))
  have v : ∀ j, gI h' 51 j = gI h 51 j := fun j => gI_keep (a := 51) (kd := 0) (n := 121) hO g j (by decide) rfl (by decide) rfl (by decide) (w _ (by decide))
  unfold NRn
  rw [e8, e9, n]
  refine ⟨fun i i0 i1 => by rw [v]; exact H.1 i i0 i1, fun j j0 j1 p0 p1 => ?_⟩
  rw [c] at p0 p1
  obtain ⟨i, i0, i1, e⟩ := H.2 j j0 j1 p0 p1
  exact ⟨i, i0, i1, by rw [v]; exact e⟩
/-- .. while they are gathered -/
def GNq (h0 h : aH) (z : Nat) (P k : Int) : Prop := 0 ≤ fO h 41 14 ∧ fO h 41 14 ≤ k - fO h0 z 8 ∧ (∀ i : Int, 0 ≤ i → i < fO h 41 14 → fO h0 z 8 ≤ gI h 51 i ∧ gI h 51 i < k) ∧ ∀ j : Int, fO h0 z 8 ≤ j → j < k → -240 ≤ cf h0 z j - P → cf h0 z j - P ≤ 240 → ∃ i : Int, 0 ≤ i ∧ i < fO h 41 14 ∧ gI h 51 i = j
theorem GNq.z {h0 h : aH} {z : Nat} {P k : Int} (n : fO h 41 14 = 0) (e : k = fO h0 z 8) : GNq h0 h z P k := ⟨by omega, by omega, fun i i0 i1 => by omega, fun j j0 j1 => by omega⟩
theorem GNq.n {h0 h : aH} {z : Nat} {P k k' : Int} (H : GNq h0 h z P k) (c : ¬ (-240 ≤ cf h0 z k - P ∧ cf h0 z k - P ≤ 240)) (e : k' = k + 1) : GNq h0 h z P k' := by
  obtain ⟨a, b, u, v⟩ := H
  refine ⟨a, by omega, fun i i0 i1 => ?_, fun j j0 j1 p0 p1 => ?_⟩
  · have := u i i0 i1
    omega
  · by_cases q : j < k
    · exact v j j0 q p0 p1
    · obtain rfl : j = k := by omega
      exact absurd ⟨p0, p1⟩ c
theorem GNq.y {h0 h h' : aH} {z : Nat} {P k k' : Int} (H : GNq h0 h z P k) (n : fO h' 41 14 = fO h 41 14 + 1) (sq : ∀ i : Int, 0 ≤ i → (i = fO h 41 14 → gI h' 51 i = k) ∧ (i ≠ fO h 41 14 → gI h' 51 i = gI h 51 i)) (hk : fO h0 z 8 ≤ k) (e : k' = k + 1) : GNq h0 h' z P k' := by
  obtain ⟨a, b, u, v⟩ := H
  refine ⟨by omega, by omega, fun i i0 i1 => ?_, fun j j0 j1 p0 p1 => ?_⟩
  · by_cases q : i = fO h 41 14
    · rw [(sq i i0).1 q]
      omega
    · rw [(sq i i0).2 q]
      have := u i i0 (by omega)
      omega
  · by_cases q : j < k
    · obtain ⟨i, i0, i1, c⟩ := v j j0 q p0 p1
      exact ⟨i, i0, by omega, by rw [(sq i i0).2 (by omega)]; exact c⟩
    · exact ⟨fO h 41 14, a, by omega, by rw [(sq _ a).1 rfl]; omega⟩
theorem GNq.e {h0 h' : aH} {z : Nat} {P k : Int} (H : GNq h0 h' z P k) (e : k = fO h0 z 9 + 1) (e8 : fO h' z 8 = fO h0 z 8) (e9 : fO h' z 9 = fO h0 z 9) (c : ∀ j, cf h' z j = cf h0 z j) : NRn h' z P := by
  obtain ⟨a, b, u, v⟩ := H
  refine ⟨fun i i0 i1 => ?_, fun j j0 j1 p0 p1 => ?_⟩
  · have := u i i0 i1
    omega
  · rw [c] at p0 p1
    exact v j (by omega) (by omega) p0 p1
/-- some return of it is seen by p on day d -/
def SNz (ls : List (List (Int × Int) × List (Int × Int))) (h : aH) (z : Nat) (p d : Int) : Prop := ∃ j : Int, (fO h z 8 ≤ j ∧ j ≤ fO h z 9) ∧ canP ls (fO h z 2) (fO h z 4) (fO h z 3) (fO h z 5) p (cf h z j) d
theorem SNz.un {ls : List (List (Int × Int) × List (Int × Int))} {W : List Nat} {h h' : aH} {z : Nat} {p d : Int} (hO : OK h) (g : un W h h') (gz : 114 ≤ z) (t : tg h z = (102, 14)) (w : ∀ k ∈ [221, 21202, 21203, 21204, 21205, 21208, 21209, 21210], k ∉ W) : SNz ls h' z p d ↔ SNz ls h z p d := by
  have f : ∀ k, k < 14 → 21200 + k ∈ [221, 21202, 21203, 21204, 21205, 21208, 21209, 21210] → fO h' z k = fO h z k := fun k hk m => fO_eA (fC_un hO g gz t hk (w _ m))
  have c : ∀ j, cf h' z j = cf h z j := fun j => cf_un hO g gz t (fun k hk => w k (by revert hk; revert k; decide))
  unfold SNz
  rw [f 8 (by decide) (by decide), f 9 (by decide) (by decide), f 2 (by decide) (by decide), f 4 (by decide) (by decide), f 3 (by decide) (by decide), f 5 (by decide) (by decide)]
  exact ⟨fun ⟨j, r, q⟩ => ⟨j, r, by rw [c] at q; exact q⟩, fun ⟨j, r, q⟩ => ⟨j, r, by rw [c]; exact q⟩⟩
/-- one seen, the other not -/
def OAz (ls : List (List (Int × Int) × List (Int × Int))) (h : aH) (z o : Nat) (k p d : Int) : Prop := canP ls (fO h z 2) (fO h z 4) (fO h z 3) (fO h z 5) p (cf h z k) d ∧ ¬ SNz ls h o p d
theorem OAz.un {ls : List (List (Int × Int) × List (Int × Int))} {W : List Nat} {h h' : aH} {z o : Nat} {k p d : Int} (hO : OK h) (g : un W h h') (tz : 114 ≤ z ∧ tg h z = (102, 14)) (to : 114 ≤ o ∧ tg h o = (102, 14)) (w : ∀ k ∈ [221, 21202, 21203, 21204, 21205, 21208, 21209, 21210], k ∉ W) : OAz ls h' z o k p d ↔ OAz ls h z o k p d := by
  have f : ∀ k, k < 14 → 21200 + k ∈ [221, 21202, 21203, 21204, 21205, 21208, 21209, 21210] → fO h' z k = fO h z k := fun k hk m => fO_eA (fC_un hO g tz.1 tz.2 hk (w _ m))
  unfold OAz
  rw [SNz.un hO g to.1 to.2 w, f 2 (by decide) (by decide), f 4 (by decide) (by decide), f 3 (by decide) (by decide), f 5 (by decide) (by decide), cf_un hO g tz.1 tz.2 (fun k hk => w k (by revert hk; revert k; decide))]
/-- the least of a set of numbers from 0 on, or -1 -/
def MNq (D : Int → Prop) (x : Int) : Prop := (x = -1 ∧ ∀ c, ¬ D c) ∨ (0 ≤ x ∧ D x ∧ ∀ c, D c → x ≤ c)
theorem MNq.u {D D' : Int → Prop} {x y : Int} (a : MNq D x) (b : MNq D' y) (e : ∀ c, D c ↔ D' c) : x = y := by
  rcases a with ⟨a1, a2⟩ | ⟨a1, a2, a3⟩
  · rcases b with ⟨b1, -⟩ | ⟨-, b2, -⟩
    · omega
    · exact absurd ((e y).mpr b2) (a2 y)
  · rcases b with ⟨-, b2⟩ | ⟨b1, b2, b3⟩
    · exact absurd ((e x).mp a2) (b2 x)
    · have := a3 y ((e y).mpr b2)
      have := b3 x ((e x).mp a2)
      omega
theorem MNq.z {D : Int → Prop} {x : Int} (e : x = -1) (n : ∀ c, ¬ D c) : MNq D x := Or.inl ⟨e, n⟩
theorem MNq.c {D D' : Int → Prop} {x : Int} (a : MNq D x) (e : ∀ c, D' c ↔ D c) : MNq D' x := by
  rcases a with ⟨a1, a2⟩ | ⟨a1, a2, a3⟩
  · exact Or.inl ⟨a1, fun c q => a2 c ((e c).mp q)⟩
  · exact Or.inr ⟨a1, (e x).mpr a2, fun c q => a3 c ((e c).mp q)⟩
/-- the days of one watch and return come to it; those behind the least so far need no look -/
theorem MNq.st {D D' : Int → Prop} {E : Int → Prop} {x x' y p lo hi hi' : Int} (a : MNq D x) (hp : 0 ≤ p ∧ p ≤ 8) (h0 : 0 ≤ lo) (f : LKf lo hi' (-1) E y) (eh : (x = -1 ∧ hi' = hi) ∨ (x ≠ -1 ∧ (hi' = hi ∨ hi' = x / 9) ∧ hi' ≤ hi ∧ hi' ≤ x / 9)) (e : ∀ c, D' c ↔ (D c ∨ (c % 9 = p ∧ (lo ≤ c / 9 ∧ c / 9 ≤ hi) ∧ E (c / 9)))) (ex : (y = -1 ∧ x' = x) ∨ (y ≠ -1 ∧ ((x = -1 ∨ 9 * y + p < x) ∧ x' = 9 * y + p ∨ (x ≠ -1 ∧ x ≤ 9 * y + p) ∧ x' = x))) : MNq D' x' := by
  have far : ∀ c, (lo ≤ c / 9 ∧ c / 9 ≤ hi) → E (c / 9) → (x ≠ -1 ∧ x ≤ c) ∨ (y ≠ -1 ∧ y ≤ c / 9) := fun c r q => by
    rcases f with ⟨f1, f2⟩ | ⟨f1, f2, f3⟩
    · by_cases l : c / 9 ≤ hi'
      · exact absurd q (f2 _ r.1 (by omega))
      · exact Or.inl (by omega)
    · by_cases l : c / 9 < y
      · exact absurd q (f3 _ r.1 l)
      · exact Or.inr (by omega)
  rcases f with ⟨f1, f2⟩ | ⟨f1, f2, f3⟩
  · obtain rfl : x' = x := by omega
    rcases a with ⟨a1, a2⟩ | ⟨a1, a2, a3⟩
    · refine Or.inl ⟨a1, fun c q => ?_⟩
      rcases (e c).mp q with q | ⟨-, r, q⟩
      · exact a2 c q
      · have := far c r q
        omega
    · refine Or.inr ⟨a1, (e x').mpr (Or.inl a2), fun c q => ?_⟩
      rcases (e c).mp q with q | ⟨-, r, q⟩
      · exact a3 c q
      · have := far c r q
        omega
  · have y1 : y ≠ -1 := by omega
    have dy : D' (9 * y + p) := (e _).mpr (Or.inr ⟨by omega, by omega, by rw [show (9 * y + p) / 9 = y by omega]; exact f2⟩)
    rcases a with ⟨a1, a2⟩ | ⟨a1, a2, a3⟩
    · obtain rfl : x' = 9 * y + p := by omega
      refine Or.inr ⟨by omega, dy, fun c q => ?_⟩
      rcases (e c).mp q with q | ⟨m, r, q⟩
      · exact absurd q (a2 c)
      · have := far c r q
        omega
    · rcases ex with ex | ⟨-, ⟨ex, rfl⟩ | ⟨ex, rfl⟩⟩
      · omega
      · refine Or.inr ⟨by omega, dy, fun c q => ?_⟩
        rcases (e c).mp q with q | ⟨m, r, q⟩
        · have := a3 c q
          omega
        · have := far c r q
          omega
      · refine Or.inr ⟨a1, (e x').mpr (Or.inl a2), fun c q => ?_⟩
        rcases (e c).mp q with q | ⟨m, r, q⟩
        · exact a3 c q
        · have := far c r q
          omega
/-- the codes of a watch and a return -/
def CWd (by_ fr to : Int → Int) (E : Int → Int → Prop) (i c : Int) : Prop := c % 9 = by_ i ∧ (fr i ≤ c / 9 ∧ c / 9 ≤ to i) ∧ E (c % 9) (c / 9)
theorem CWd.e {by_ fr to : Int → Int} {E : Int → Int → Prop} {i c p lo hi t : Int} (ep : p = by_ i) (el : fr i ≤ lo ∧ t - 120 ≤ lo ∧ (lo = fr i ∨ lo = t - 120)) (eh : hi ≤ to i ∧ hi ≤ t + 120 ∧ (hi = to i ∨ hi = t + 120)) (hE : ∀ q d, E q d → -120 ≤ d - t ∧ d - t ≤ 120) : CWd by_ fr to E i c ↔ (c % 9 = p ∧ (lo ≤ c / 9 ∧ c / 9 ≤ hi) ∧ E p (c / 9)) := by
  subst ep
  constructor
  · rintro ⟨a, b, q⟩
    rw [a] at q
    have := hE _ _ q
    exact ⟨a, by omega, q⟩
  · rintro ⟨a, b, q⟩
    have := hE _ _ q
    exact ⟨a, by omega, by rw [a]; exact q⟩
/-- those that are through: rows below k whole, row k below i -/
def CD2 (lo l2 h2 : Int) (A : Int → Int → Int → Prop) (k i c : Int) : Prop := (∃ k' i', (lo ≤ k' ∧ k' < k) ∧ (l2 ≤ i' ∧ i' < h2) ∧ A k' i' c) ∨ ∃ i', (l2 ≤ i' ∧ i' < i) ∧ A k i' c
theorem CD2.z {lo l2 h2 : Int} {A : Int → Int → Int → Prop} {k i c : Int} (hk : k = lo) (hi : i = l2) : ¬ CD2 lo l2 h2 A k i c := by
  rintro (⟨k', i', hk', -⟩ | ⟨i', hi', -⟩)
  · omega
  · omega
theorem CD2.s {lo l2 h2 : Int} {A : Int → Int → Int → Prop} {k i i' c : Int} (e : i' = i + 1) (i0 : l2 ≤ i) : CD2 lo l2 h2 A k i' c ↔ (CD2 lo l2 h2 A k i c ∨ A k i c) := by
  subst e
  constructor
  · rintro (h | ⟨j, hj, q⟩)
    · exact Or.inl (Or.inl h)
    · by_cases l : j < i
      · exact Or.inl (Or.inr ⟨j, ⟨hj.1, l⟩, q⟩)
      · obtain rfl : j = i := by omega
        exact Or.inr q
  · rintro ((h | ⟨j, hj, q⟩) | q)
    · exact Or.inl h
    · exact Or.inr ⟨j, ⟨hj.1, by omega⟩, q⟩
    · exact Or.inr ⟨i, ⟨i0, by omega⟩, q⟩
theorem CD2.k {lo l2 h2 : Int} {A : Int → Int → Int → Prop} {k k' i c : Int} (e : k' = k + 1) (hk : lo ≤ k) (hi : i = h2) : CD2 lo l2 h2 A k' l2 c ↔ CD2 lo l2 h2 A k i c := by
  subst e hi
  constructor
  · rintro (⟨j, u, hj, hu, q⟩ | ⟨u, hu, -⟩)
    · by_cases l : j < k
      · exact Or.inl ⟨j, u, ⟨hj.1, l⟩, hu, q⟩
      · obtain rfl : j = k := by omega
        exact Or.inr ⟨u, hu, q⟩
    · omega
  · rintro (⟨j, u, hj, hu, q⟩ | ⟨u, hu, q⟩)
    · exact Or.inl ⟨j, u, ⟨hj.1, by omega⟩, hu, q⟩
    · exact Or.inl ⟨k, u, ⟨hk, by omega⟩, hu, q⟩
set_option maxRecDepth 20000 in
set_option maxHeartbeats 4000000 in
theorem sd_X7_gatherNear {d kc ks : Nat} {h0 : aH} {Q : Option aV → aH → Prop} {d0 : Int} (hO0 : OK h0) {a1 : Nat} (g1 : 114 ≤ a1) (t1 : tg h0 a1 = (102, 14)) (a2 : Int32) (b2 : 0 ≤ a2.toInt ∧ a2.toInt ≤ 999999) (pre0 : SKc h0) (pre1 : (0 ≤ d0 ∧ d0 < fO h0 1 4) ∧ cz h0 d0 a1) (hQ : ∀ r h', (r = none) → OK h' → un [51, 5114] h0 h' → (NRn h' a1 a2.toInt) → Q r h') : uCall Mt (d + 4) 88 [(.inr (.inr (some 41))), (.inr (.inr (some a1))), (.inl a2)] h0 kc ks Q := by
  have l_0 : ((0) : Int32).toInt = 0 := by decide
  have l_1 : ((1) : Int32).toInt = 1 := by decide
  have l_240 : ((240) : Int32).toInt = 240 := by decide
  refine uc_ink [some (.inr (.inr (some 41))), some (.inr (.inr (some a1))), some (.inl a2), none] mt_88 (Nat.le_of_ble_eq_true rfl) rfl ?_
  obtain ⟨f2, f3, hc1, k4⟩ := ok_41 hO0
  have t5 := fO_of (k := 14) hc1 rfl
  refine ur_ldA rfl rfl ?_
  refine ur_push rfl ?_
  refine ur_putV (W := [51, 5114]) (fs' := [(.inr (.inr (some 1))), (.inr (.inr (some 15))), (.inr (.inr (some 8))), (.inr (.inr (some 42))), (.inr (.inr (some 43))), (.inr (.inr (some 44))), (.inl f2), (.inr (.inr (some 45))), (.inr (.inr (some 46))), (.inr (.inr (some 47))), (.inr (.inr (some 48))), (.inr (.inr (some 49))), (.inr (.inr (some 50))), (.inr (.inr (some 51))), (.inl 0)]) rfl hO0 hc1 (Nat.le_of_ble_eq_true rfl) rfl rfl ⟨rfl, _, _, rfl, by omega⟩ rfl (Or.inr (by show 1000 + 100 * wid 41 (107, 15) + 14 ∈ _; rw [(wid_f (by decide))]; decide)) (fun h7 hO7 hu7 d6 hc8 => ?_)
  refine ur_ldA rfl rfl ?_
  obtain ⟨g29, f10, f11, f12, f13, f14, f15, f16, f17, f18, f19, q20, q21, o22, q23, hc9, k24, k25, k26, k27, k28⟩ := hO7.comet (hu7.tm t1 (by decide))
  refine ur_get rfl hc9 rfl ?_
  refine ur_svIk [some (.inr (.inr (some 41))), some (.inr (.inr (some a1))), some (.inl a2), some (.inl f18)] rfl rfl ?_
  have t34 := fO_of (k := 14) hc8 rfl
  have L31 : ∀ (m32 : Nat) (x30 : Int32) (h35 : aH) , OK h35 → un [51, 5114] h7 h35 → ((-60 ≤ x30.toInt ∧ x30.toInt ≤ 61) ∧ fO h0 a1 8 ≤ x30.toInt ∧ x30.toInt ≤ fO h0 a1 9 + 1) → (GNq h0 h35 a1 a2.toInt x30.toInt) → ((62 - x30.toInt).toNat) < m32 → uRun oX7_gatherNear (uCall Mt (d + 3)) Q 10 ([some (.inr (.inr (some 41))), some (.inr (.inr (some a1))), some (.inl a2), some (.inl x30)], [], h35, kc, ks) := by
    intro m32
    induction m32 with
    | zero => intro x30 h35 hO35 hu35 iv37 px36 mm38; omega
    | succ m32 ih33 =>
      intro x30 h35 hO35 hu35 iv37 px36 mm38
      have tt39 := px36.2.1
      obtain ⟨f41, f42, hc40, k43⟩ := ok_41 hO35
      have t44 := fO_of (k := 14) hc40 rfl
      have t45 := fO_of (k := 8) (hu35.ko (n := 14) hc9 rfl (wid_c g29) (by decide)) rfl
      have tt46 : fO h35 a1 8 = fO h0 a1 8 := fO_eA (fC_un hO0 (hu7.tr hu35) g1 t1 (k := 8) (by decide) (by decide))
      have t47 := fO_of (k := 9) (hu35.ko (n := 14) hc9 rfl (wid_c g29) (by decide)) rfl
      have tt48 : fO h35 a1 9 = fO h0 a1 9 := fO_eA (fC_un hO0 (hu7.tr hu35) g1 t1 (k := 9) (by decide) (by decide))
      refine ur_ldI rfl rfl ?_
      refine ur_ldA rfl rfl ?_
      refine ur_get rfl (hu35.ko (n := 14) hc9 rfl (wid_c g29) (by decide)) rfl ?_
      have tt49 : fO h35 a1 8 = fO h0 a1 8 := fO_eA (fC_un hO0 (hu7.tr hu35) g1 t1 (k := 8) (by decide) (by decide))
      have tt50 : fO h35 a1 9 = fO h0 a1 9 := fO_eA (fC_un hO0 (hu7.tr hu35) g1 t1 (k := 9) (by decide) (by decide))
      have z51 := any_r x30
      have z52 := any_r f19
      refine ur_if2 rfl (fun c53 => ?_) (fun c53 => ?_)
      · have t54 := lt_to c53
        exact ur_ret0 rfl (hQ _ _ rfl hO35 (hu7.tr hu35) (px36.e (by omega) (fO_eA (fC_un hO0 (hu7.tr hu35) g1 t1 (k := 8) (by decide) (by decide))) (fO_eA (fC_un hO0 (hu7.tr hu35) g1 t1 (k := 9) (by decide) (by decide))) (fun j => cf_un hO0 (hu7.tr hu35) g1 t1 (by decide))))
      · have t55 := lt_no c53
        refine ur_ldA rfl rfl ?_
        refine ur_ldI rfl rfl ?_
        refine ur_inl rfl (rcv_of (hu35.ko (n := 14) hc9 rfl (wid_c g29) (by decide))) (Nat.le_of_ble_eq_true rfl) (Nat.le_of_ble_eq_true rfl) (sd_X2_passOf hO35 g29 (hu35.tm (hu7.tm t1 (by decide)) (by decide)) _ (by show -60 ≤ x30.toInt ∧ x30.toInt ≤ 60; omega) (fun w56 hr57 => ?_))
        obtain ⟨x58, rfl, f59⟩ := hr57
        show uRun _ (uCall Mt _) _ 23 (_, [(.inl x58)], _, _, _)
        have tt60 : x58.toInt = cf h0 a1 x30.toInt := by rw [← cf_un hO0 (hu7.tr hu35) g1 t1 (by decide)]; unfold cf; rw [fO_eA (fC_un hO0 (hu7.tr hu35) g1 t1 (k := 8) (by decide) (by decide)), fO_eA (fC_un hO0 (hu7.tr hu35) g1 t1 (k := 9) (by decide) (by decide))]; rw [if_pos (by omega)]; exact f59
        have tt61 := pre0.rg pre1.1 pre1.2 (k := x30.toInt) (by omega)
        refine ur_ldI rfl rfl ?_
        refine ur_binV rfl (fun x62 e63 => ?_)
        have z64 := any_r x58
        have z65 := any_r a2
        have t66 := ti_sub e63 (by omega) (by omega)
        refine ur_absV rfl (by show ¬ 9 ≤ 1; decide) (fun x67 t68 e69 => ?_)
        have t70 := t68 (by omega)
        clear t68
        refine ur_push rfl ?_
        refine ur_if2 rfl (fun c71 => ?_) (fun c71 => ?_)
        · have t72 := lt_to c71
          refine ur_incV (fun z => [some (.inr (.inr (some 41))), some (.inr (.inr (some a1))), some (.inl a2), some (.inl z)]) rfl rfl (fun _ => rfl) (fun x73 e74 => ?_)
          have t75 := ti_add e74 (by omega) (by omega)
          refine ur_go rfl ?_
          have z76 := any_r x73
          exact ih33 x73 _ hO35 hu35 (by omega) (px36.n (by omega) (by omega)) (by omega)
        · have t77 := lt_no c71
          refine ur_ldA rfl rfl ?_
          refine ur_get rfl hc40 rfl ?_
          refine ur_ldA rfl rfl ?_
          refine ur_get rfl hc40 rfl ?_
          obtain ⟨xs79, hc78, hn80, he81⟩ := hO35.int (hO35.fix 51 (by decide) rfl)
          refine ur_lenV (m := 121) rfl hc78 hn80 (by decide) (fun x82 t83 => ?_)
          have z84 := any_r f42
          have z85 := any_r x82
          refine ur_if2 rfl (fun c86 => ?_) (fun c86 => ?_)
          · have t87 := lt_to c86
            refine ur_ldA rfl rfl ?_
            refine ur_get rfl hc40 rfl ?_
            refine ur_ldA rfl rfl ?_
            refine ur_get rfl hc40 rfl ?_
            refine ur_ldI rfl rfl ?_
            refine ur_astV (W := [51, 5114]) (m := 121) rfl hO35 hc78 (by decide) hn80 (by omega) (by show -60 ≤ x30.toInt ∧ x30.toInt ≤ 60; omega) (Or.inr (Or.inr (wid_fix (by decide) (by decide)))) (fun h90 hO90 hu90 d88 hc89 => ?_)
            have w91 : wI h35 h90 51 ((arI h35 51).set (f42 : Int32).toInt.toNat x30) := ⟨by rw [arI_of hc89, arI_of hc78], d88⟩
            refine ur_ldA rfl rfl ?_
            refine ur_dup rfl rfl ?_
            refine ur_get rfl ((d88 _ (by decide)).trans hc40) rfl ?_
            have t92 := fO_of (k := 14) ((d88 _ (by decide)).trans hc40) rfl
            refine ur_push rfl ?_
            refine ur_binV rfl (fun x93 e94 => ?_)
            have t95 := ti_add e94 (by omega) (by omega)
            refine ur_putV (W := [51, 5114]) (fs' := [(.inr (.inr (some 1))), (.inr (.inr (some 15))), (.inr (.inr (some 8))), (.inr (.inr (some 42))), (.inr (.inr (some 43))), (.inr (.inr (some 44))), (.inl f41), (.inr (.inr (some 45))), (.inr (.inr (some 46))), (.inr (.inr (some 47))), (.inr (.inr (some 48))), (.inr (.inr (some 49))), (.inr (.inr (some 50))), (.inr (.inr (some 51))), (.inl x93)]) rfl hO90 ((d88 _ (by decide)).trans hc40) (Nat.le_of_ble_eq_true rfl) rfl rfl ⟨rfl, _, _, rfl, by omega⟩ rfl (Or.inr (by show 1000 + 100 * wid 41 (107, 15) + 14 ∈ _; rw [(wid_f (by decide))]; decide)) (fun h97 hO97 hu97 d96 hc98 => ?_)
            refine ur_incV (fun z => [some (.inr (.inr (some 41))), some (.inr (.inr (some a1))), some (.inl a2), some (.inl z)]) rfl rfl (fun _ => rfl) (fun x99 e100 => ?_)
            have t101 := ti_add e100 (by omega) (by omega)
            refine ur_go rfl ?_
            have t102 := fO_of (k := 14) hc98 rfl
            have z103 := any_r x99
            exact ih33 x99 _ hO97 (hu35.tr (hu90.tr hu97)) (by omega) (px36.y (by omega) (fun i i0 => (by have sq := gI_sq (j := i) (am_l (a := 51) hO35 (by decide) rfl (by decide)) w91.1 (by omega) i0; have e := congrFun (gI_f (d96 51 (by decide))) i; rw [e, show ((f42.toInt.toNat : Nat) : Int) = fO h35 41 14 by omega] at *; exact ⟨fun c => (sq.1 c).trans (by omega), sq.2⟩)) (by omega) (by omega)) (by omega)
          · have t104 := lt_no c86
            refine ur_go rfl ?_
            refine ur_incV (fun z => [some (.inr (.inr (some 41))), some (.inr (.inr (some a1))), some (.inl a2), some (.inl z)]) rfl rfl (fun _ => rfl) (fun x105 e106 => ?_)
            have t107 := ti_add e106 (by omega) (by omega)
            refine ur_go rfl ?_
            have z108 := any_r x105
            exact ih33 x105 _ hO35 hu35 (by omega) (px36.n (by omega) (by omega)) (by omega)
  have z109 := any_r f18
  have t110 := fO_of (k := 8) hc9 rfl
  have tt111 : fO h7 a1 8 = fO h0 a1 8 := fO_eA (fC_un hO0 hu7 g1 t1 (k := 8) (by decide) (by decide))
  have t112 := fO_of (k := 9) hc9 rfl
  have tt113 : fO h7 a1 9 = fO h0 a1 9 := fO_eA (fC_un hO0 hu7 g1 t1 (k := 9) (by decide) (by decide))
  exact L31 _ f18 _ hO7 un.rf (by omega) (GNq.z (by omega) (by omega)) (Nat.lt_succ_self _)

set_option maxRecDepth 20000 in
set_option maxHeartbeats 4000000 in
theorem sd_X7_isSeenNear {d kc ks : Nat} {h0 : aH} {Q : Option aV → aH → Prop} {ls : List (List (Int × Int) × List (Int × Int))} {c0 : Int} {P : Int} (hO0 : OK h0) {a1 : Nat} (g1 : 114 ≤ a1) (t1 : tg h0 a1 = (102, 14)) (a2 : Int32) (b2 : 0 ≤ a2.toInt ∧ a2.toInt ≤ 8) (a3 : Int32) (b3 : 0 ≤ a3.toInt ∧ a3.toInt ≤ 999999) (pre0 : SKc h0) (pre1 : SGc ls h0) (pre2 : (0 ≤ c0 ∧ c0 < fO h0 1 4) ∧ cz h0 c0 a1) (pre3 : txC h0 9 = cfl 0 ls) (pre4 : ∀ l ∈ ls, lnG l) (pre5 : NRn h0 a1 P) (pre6 : -120 ≤ a3.toInt - P ∧ a3.toInt - P ≤ 120) (hQ : ∀ r h', (∃ q, r = some (.inl (bi q)) ∧ (q = true → SNz ls h0 a1 a2.toInt a3.toInt) ∧ (q = false → ¬ SNz ls h0 a1 a2.toInt a3.toInt)) → OK h' → un [222, 223, 21212] h0 h' → (SGc ls h') → Q r h') : uCall Mt (d + 5) 90 [(.inr (.inr (some 41))), (.inr (.inr (some a1))), (.inl a2), (.inl a3)] h0 kc ks Q := by
  have l_0 : ((0) : Int32).toInt = 0 := by decide
  have l_1 : ((1) : Int32).toInt = 1 := by decide
  refine uc_ink [some (.inr (.inr (some 41))), some (.inr (.inr (some a1))), some (.inl a2), some (.inl a3), none] mt_90 (Nat.le_of_ble_eq_true rfl) rfl ?_
  obtain ⟨f2, f3, hc1, k4⟩ := ok_41 hO0
  have t5 := fO_of (k := 14) hc1 rfl
  refine ur_push rfl ?_
  refine ur_svIk [some (.inr (.inr (some 41))), some (.inr (.inr (some a1))), some (.inl a2), some (.inl a3), some (.inl 0)] rfl rfl ?_
  have L7 : ∀ (m8 : Nat) (x6 : Int32) (h10 : aH) , OK h10 → un [222, 223, 21212] h0 h10 → ((0 ≤ x6.toInt ∧ x6.toInt ≤ 121)) → (LKq 0 x6.toInt (fun i => canP ls (fO h0 a1 2) (fO h0 a1 4) (fO h0 a1 3) (fO h0 a1 5) a2.toInt (cf h0 a1 (gI h0 51 i)) a3.toInt)) → (SGc ls h10) → ((122 - x6.toInt).toNat) < m8 → uRun oX7_isSeenNear (uCall Mt (d + 4)) Q 3 ([some (.inr (.inr (some 41))), some (.inr (.inr (some a1))), some (.inl a2), some (.inl a3), some (.inl x6)], [], h10, kc, ks) := by
    intro m8
    induction m8 with
    | zero => intro x6 h10 hO10 hu10 iv13 px11 px12 mm14; omega
    | succ m8 ih9 =>
      intro x6 h10 hO10 hu10 iv13 px11 px12 mm14
      refine ur_ldI rfl rfl ?_
      refine ur_ldA rfl rfl ?_
      refine ur_get rfl (hu10.ko (n := 15) hc1 rfl (wid_f (by decide)) (by decide)) rfl ?_
      have t15 := fO_of (k := 14) (hu10.ko (n := 15) hc1 rfl (wid_f (by decide)) (by decide)) rfl
      have z16 := any_r x6
      have z17 := any_r f3
      refine ur_if2 rfl (fun c18 => ?_) (fun c18 => ?_)
      · have t19 := le_to c18
        refine ur_push rfl ?_
        exact ur_ret rfl rfl (hQ _ _ ⟨false, rfl, fun e => absurd e (by decide), fun _ => (fun ⟨j, jr, c⟩ => by have w := c.1; obtain ⟨i, i0, i1, e⟩ := pre5.2 j jr.1 jr.2 (by omega) (by omega); exact px11 i i0 (by omega) (by show canP _ _ _ _ _ _ _ _; rw [e]; exact c))⟩ hO10 hu10 px12)
      · have t20 := le_no c18
        refine ur_ldA rfl rfl ?_
        refine ur_get rfl (hu10.ko (n := 15) hc1 rfl (wid_f (by decide)) (by decide)) rfl ?_
        refine ur_ldA rfl rfl ?_
        refine ur_ldI rfl rfl ?_
        refine ur_ldA rfl rfl ?_
        refine ur_get rfl (hu10.ko (n := 15) hc1 rfl (wid_f (by decide)) (by decide)) rfl ?_
        refine ur_ldI rfl rfl ?_
        obtain ⟨xs22, hc21, hn23, he24⟩ := hO10.int (hO10.fix 51 (by decide) rfl)
        refine ur_aldV rfl hc21 hn23 (by omega) (fun x25 hx26 => ?_)
        have t27 := gI_of (j := x6) hc21 hx26
        have t28 := gI_keep (a := 51) (kd := 0) (n := 121) hO0 hu10 (x6 : Int32).toInt (by decide) rfl (by decide) rfl (by decide) (by decide)
        have t29 : -60 ≤ x25.toInt ∧ x25.toInt ≤ 60 := he24 _ _ hx26
        have nr30 := pre5.1 x6.toInt (by omega) (by omega)
        refine ur_push rfl ?_
        refine ur_ldI rfl rfl ?_
        obtain ⟨f32, hc31, k33⟩ := ok_8 hO10
        refine ur_inl rfl (rcv_of hc31) (Nat.le_of_ble_eq_true rfl) (Nat.le_of_ble_eq_true rfl) (sd_X5_seenOn hO10 g1 (hu10.tm t1 (by decide)) _ (by show 0 ≤ a2.toInt ∧ a2.toInt ≤ 8; omega) _ (by show -60 ≤ x25.toInt ∧ x25.toInt ≤ 60; omega) _ (by show -1000000 ≤ (0 : Int32).toInt ∧ (0 : Int32).toInt ≤ 1000000; omega) _ (by show 0 ≤ a3.toInt ∧ a3.toInt ≤ 999999; omega) (pre0.un hO0 hO10 hu10 (by decide)) px12 (cz_un hO0 hO10 hu10 pre2 (by decide) (by decide)) ((txC_un hO0 hO10 hu10 (by decide) 9 (by decide)).trans pre3) pre4 (by rw [fO_eA (fC_un hO0 hu10 g1 t1 (k := 8) (by decide) (by decide)), fO_eA (fC_un hO0 hu10 g1 t1 (k := 9) (by decide) (by decide))]; omega) (fun w34 h37 hr35 hO37 hv37 hp36 => ?_))
        have hu37 := hv37
        obtain ⟨b38, rfl, t39, t40⟩ := hr35
        show uRun _ (uCall Mt _) _ 30 (_, [(.inl (bi b38))], _, _, _)
        refine ur_eqB rfl (fun c41 => ?_) (fun c41 => ?_)
        · have t42 := t40 c41
          clear t39 t40
          refine ur_incV (fun z => [some (.inr (.inr (some 41))), some (.inr (.inr (some a1))), some (.inl a2), some (.inl a3), some (.inl z)]) rfl rfl (fun _ => rfl) (fun x43 e44 => ?_)
          have t45 := ti_add e44 (by omega) (by omega)
          refine ur_go rfl ?_
          have t46 := fO_of (k := 14) (hv37.ko (n := 15) (hu10.ko (n := 15) hc1 rfl (wid_f (by decide)) (by decide)) rfl (wid_f (by decide)) (by decide)) rfl
          have z47 := any_r x43
          exact ih9 x43 _ hO37 (hu10.tr hu37) (by omega) (px11.s (by have q := t42; rw [fO_eA (fC_un hO0 hu10 g1 t1 (k := 2) (by decide) (by decide)), fO_eA (fC_un hO0 hu10 g1 t1 (k := 4) (by decide) (by decide)), fO_eA (fC_un hO0 hu10 g1 t1 (k := 3) (by decide) (by decide)), fO_eA (fC_un hO0 hu10 g1 t1 (k := 5) (by decide) (by decide)), cf_un hO0 hu10 g1 t1 (by decide), l_0, Int.add_zero, show x25.toInt = gI h0 51 x6.toInt by omega] at q; exact q) (by omega)) hp36 (by omega)
        · have t48 := t39 c41
          clear t39 t40
          refine ur_push rfl ?_
          have t49 := fO_of (k := 14) (hv37.ko (n := 15) (hu10.ko (n := 15) hc1 rfl (wid_f (by decide)) (by decide)) rfl (wid_f (by decide)) (by decide)) rfl
          exact ur_ret rfl rfl (hQ _ _ ⟨true, rfl, fun _ => ⟨gI h0 51 x6.toInt, pre5.1 x6.toInt (by omega) (by omega), (by have q := t48; rw [fO_eA (fC_un hO0 hu10 g1 t1 (k := 2) (by decide) (by decide)), fO_eA (fC_un hO0 hu10 g1 t1 (k := 4) (by decide) (by decide)), fO_eA (fC_un hO0 hu10 g1 t1 (k := 3) (by decide) (by decide)), fO_eA (fC_un hO0 hu10 g1 t1 (k := 5) (by decide) (by decide)), cf_un hO0 hu10 g1 t1 (by decide), l_0, Int.add_zero, show x25.toInt = gI h0 51 x6.toInt by omega] at q; exact q)⟩, fun e => absurd e (by decide)⟩ hO37 (hu10.tr hu37) hp36)
  exact L7 _ 0 _ hO0 un.rf (by omega) (LKq.z (by omega)) pre1 (Nat.lt_succ_self _)

set_option maxRecDepth 20000 in
set_option maxHeartbeats 4000000 in
theorem sd_X7_firstOfOneAlone {d kc ks : Nat} {h0 : aH} {Q : Option aV → aH → Prop} {ls : List (List (Int × Int) × List (Int × Int))} {c0 : Int} {d0 : Int} (hO0 : OK h0) {a1 : Nat} (g1 : 114 ≤ a1) (t1 : tg h0 a1 = (102, 14)) {a2 : Nat} (g2 : 114 ≤ a2) (t2 : tg h0 a2 = (102, 14)) (a3 : Int32) (b3 : -60 ≤ a3.toInt ∧ a3.toInt ≤ 60) (a4 : Int32) (b4 : 0 ≤ a4.toInt ∧ a4.toInt ≤ 8) (a5 : Int32) (b5 : 0 ≤ a5.toInt ∧ a5.toInt ≤ 2147483647) (a6 : Int32) (b6 : -2147483648 ≤ a6.toInt ∧ a6.toInt ≤ 999999) (pre0 : SKc h0) (pre1 : SGc ls h0) (pre2 : (0 ≤ c0 ∧ c0 < fO h0 1 4) ∧ cz h0 c0 a1) (pre3 : txC h0 9 = cfl 0 ls) (pre4 : ∀ l ∈ ls, lnG l) (pre5 : (0 ≤ d0 ∧ d0 < fO h0 1 4) ∧ cz h0 d0 a2) (pre6 : fO h0 a1 8 ≤ a3.toInt ∧ a3.toInt ≤ fO h0 a1 9) (pre7 : NRn h0 a2 (cf h0 a1 a3.toInt)) (pre8 : (cf h0 a1 a3.toInt) - 120 ≤ a5.toInt ∧ a6.toInt ≤ (cf h0 a1 a3.toInt) + 120) (hQ : ∀ r h', (∃ x : Int32, r = some (.inl x) ∧ (LKf a5.toInt a6.toInt (-1) (fun d => OAz ls h0 a1 a2 a3.toInt a4.toInt d) x.toInt ∧ -1 ≤ x.toInt ∧ x.toInt ≤ 999999)) → OK h' → un [222, 223, 21212] h0 h' → (SGc ls h') → Q r h') : uCall Mt (d + 6) 89 [(.inr (.inr (some 41))), (.inr (.inr (some a1))), (.inr (.inr (some a2))), (.inl a3), (.inl a4), (.inl a5), (.inl a6)] h0 kc ks Q := by
  have l_m1 : ((-1) : Int32).toInt = -1 := by decide
  have l_0 : ((0) : Int32).toInt = 0 := by decide
  have l_1 : ((1) : Int32).toInt = 1 := by decide
  refine uc_ink [some (.inr (.inr (some 41))), some (.inr (.inr (some a1))), some (.inr (.inr (some a2))), some (.inl a3), some (.inl a4), some (.inl a5), some (.inl a6), none] mt_89 (Nat.le_of_ble_eq_true rfl) rfl ?_
  refine ur_ldI rfl rfl ?_
  refine ur_svIk [some (.inr (.inr (some 41))), some (.inr (.inr (some a1))), some (.inr (.inr (some a2))), some (.inl a3), some (.inl a4), some (.inl a5), some (.inl a6), some (.inl a5)] rfl rfl ?_
  have L2 : ∀ (m3 : Nat) (x1 : Int32) (h5 : aH) , OK h5 → un [222, 223, 21212] h0 h5 → ((0 ≤ x1.toInt ∧ x1.toInt ≤ 2147483647) ∧ a5.toInt ≤ x1.toInt) → (LKq a5.toInt x1.toInt (fun d => OAz ls h0 a1 a2 a3.toInt a4.toInt d)) → (SGc ls h5) → ((2147483648 - x1.toInt).toNat) < m3 → uRun oX7_firstOfOneAlone (uCall Mt (d + 5)) Q 4 ([some (.inr (.inr (some 41))), some (.inr (.inr (some a1))), some (.inr (.inr (some a2))), some (.inl a3), some (.inl a4), some (.inl a5), some (.inl a6), some (.inl x1)], [], h5, kc, ks) := by
    intro m3
    induction m3 with
    | zero => intro x1 h5 hO5 hu5 iv8 px6 px7 mm9; omega
    | succ m3 ih4 =>
      intro x1 h5 hO5 hu5 iv8 px6 px7 mm9
      refine ur_ldI rfl rfl ?_
      refine ur_ldI rfl rfl ?_
      have z10 := any_r x1
      have z11 := any_r a6
      refine ur_if2 rfl (fun c12 => ?_) (fun c12 => ?_)
      · have t13 := lt_to c12
        refine ur_push rfl ?_
        exact ur_ret rfl rfl (hQ _ _ ⟨_, rfl, ⟨Or.inl ⟨by omega, (px6.mono (by omega))⟩, by omega, by omega⟩⟩ hO5 hu5 px7)
      · have t14 := lt_no c12
        refine ur_ldA rfl rfl ?_
        obtain ⟨f16, f17, hc15, k18⟩ := ok_41 hO5
        refine ur_get rfl hc15 rfl ?_
        refine ur_ldA rfl rfl ?_
        refine ur_ldI rfl rfl ?_
        refine ur_ldI rfl rfl ?_
        refine ur_push rfl ?_
        refine ur_ldI rfl rfl ?_
        obtain ⟨f20, hc19, k21⟩ := ok_8 hO5
        refine ur_inl rfl (rcv_of hc19) (Nat.le_of_ble_eq_true rfl) (Nat.le_of_ble_eq_true rfl) (sd_X5_seenOn hO5 g1 (hu5.tm t1 (by decide)) _ (by show 0 ≤ a4.toInt ∧ a4.toInt ≤ 8; omega) _ (by show -60 ≤ a3.toInt ∧ a3.toInt ≤ 60; omega) _ (by show -1000000 ≤ (0 : Int32).toInt ∧ (0 : Int32).toInt ≤ 1000000; omega) _ (by show 0 ≤ x1.toInt ∧ x1.toInt ≤ 999999; omega) (pre0.un hO0 hO5 hu5 (by decide)) px7 (cz_un hO0 hO5 hu5 pre2 (by decide) (by decide)) ((txC_un hO0 hO5 hu5 (by decide) 9 (by decide)).trans pre3) pre4 (by rw [fO_eA (fC_un hO0 hu5 g1 t1 (k := 8) (by decide) (by decide)), fO_eA (fC_un hO0 hu5 g1 t1 (k := 9) (by decide) (by decide))]; exact pre6) (fun w22 h25 hr23 hO25 hv25 hp24 => ?_))
        have hu25 := hv25
        obtain ⟨b26, rfl, t27, t28⟩ := hr23
        show uRun _ (uCall Mt _) _ 25 (_, [(.inl (bi b26))], _, _, _)
        refine ur_eqB rfl (fun c29 => ?_) (fun c29 => ?_)
        · have t30 := t28 c29
          clear t27 t28
          refine ur_incV (fun z => [some (.inr (.inr (some 41))), some (.inr (.inr (some a1))), some (.inr (.inr (some a2))), some (.inl a3), some (.inl a4), some (.inl a5), some (.inl a6), some (.inl z)]) rfl rfl (fun _ => rfl) (fun x31 e32 => ?_)
          have t33 := ti_add e32 (by omega) (by omega)
          refine ur_go rfl ?_
          have z34 := any_r x31
          exact ih4 x31 _ hO25 (hu5.tr hu25) (by omega) (px6.s (fun q => absurd q.1 (by have q := t30; rw [fO_eA (fC_un hO0 hu5 g1 t1 (k := 2) (by decide) (by decide)), fO_eA (fC_un hO0 hu5 g1 t1 (k := 4) (by decide) (by decide)), fO_eA (fC_un hO0 hu5 g1 t1 (k := 3) (by decide) (by decide)), fO_eA (fC_un hO0 hu5 g1 t1 (k := 5) (by decide) (by decide)), cf_un hO0 hu5 g1 t1 (by decide), l_0, Int.add_zero] at q; exact q)) (by omega)) hp24 (by omega)
        · have t35 := t27 c29
          clear t27 t28
          refine ur_ldA rfl rfl ?_
          refine ur_ldA rfl rfl ?_
          refine ur_ldI rfl rfl ?_
          refine ur_ldI rfl rfl ?_
          have t36 := fO_of (k := 14) (hv25.ko (n := 15) hc15 rfl (wid_f (by decide)) (by decide)) rfl
          refine ur_inl rfl (rcv_of (hv25.ko (n := 15) hc15 rfl (wid_f (by decide)) (by decide))) (Nat.le_of_ble_eq_true rfl) (Nat.le_of_ble_eq_true rfl) (sd_X7_isSeenNear hO25 g2 (hu25.tm (hu5.tm t2 (by decide)) (by decide)) _ (by show 0 ≤ a4.toInt ∧ a4.toInt ≤ 8; omega) _ (by show 0 ≤ x1.toInt ∧ x1.toInt ≤ 999999; omega) ((pre0.un hO0 hO5 hu5 (by decide)).un hO5 hO25 hv25 (by decide)) hp24 (cz_un hO0 hO25 (hu5.tr hu25) pre5 (by decide) (by decide)) ((txC_un hO0 hO25 (hu5.tr hu25) (by decide) 9 (by decide)).trans pre3) pre4 (pre7.un hO0 hO25 (hu5.tr hu25) g2 t2 (by decide)) (by omega) (fun w37 h40 hr38 hO40 hv40 hp39 => ?_))
          have hu40 := hv40
          obtain ⟨b41, rfl, t42, t43⟩ := hr38
          show uRun _ (uCall Mt _) _ 37 (_, [(.inl (bi b41))], _, _, _)
          refine ur_neB rfl (fun c44 => ?_) (fun c44 => ?_)
          · have t45 := t42 c44
            clear t42 t43
            refine ur_incV (fun z => [some (.inr (.inr (some 41))), some (.inr (.inr (some a1))), some (.inr (.inr (some a2))), some (.inl a3), some (.inl a4), some (.inl a5), some (.inl a6), some (.inl z)]) rfl rfl (fun _ => rfl) (fun x46 e47 => ?_)
            have t48 := ti_add e47 (by omega) (by omega)
            refine ur_go rfl ?_
            have z49 := any_r x46
            exact ih4 x46 _ hO40 (hu5.tr (hu25.tr hu40)) (by omega) (px6.s (fun q => q.2 (by have q := t45; rw [SNz.un hO0 (hu5.tr hu25) g2 t2 (by decide)] at q; exact q)) (by omega)) hp39 (by omega)
          · have t50 := t43 c44
            clear t42 t43
            refine ur_ldI rfl rfl ?_
            exact ur_ret rfl rfl (hQ _ _ ⟨_, rfl, ⟨Or.inr ⟨by omega, ⟨(by have q := t35; rw [fO_eA (fC_un hO0 hu5 g1 t1 (k := 2) (by decide) (by decide)), fO_eA (fC_un hO0 hu5 g1 t1 (k := 4) (by decide) (by decide)), fO_eA (fC_un hO0 hu5 g1 t1 (k := 3) (by decide) (by decide)), fO_eA (fC_un hO0 hu5 g1 t1 (k := 5) (by decide) (by decide)), cf_un hO0 hu5 g1 t1 (by decide), l_0, Int.add_zero] at q; exact q), (by have q := t50; rw [SNz.un hO0 (hu5.tr hu25) g2 t2 (by decide)] at q; exact q)⟩, px6⟩, by omega, by omega⟩⟩ hO40 (hu5.tr (hu25.tr hu40)) hp39)
  have z51 := any_r a5
  exact L2 _ a5 _ hO0 un.rf (by omega) (LKq.z (by omega)) pre1 (Nat.lt_succ_self _)

set_option maxRecDepth 20000 in
set_option maxHeartbeats 4000000 in
theorem sd_X7_nextToLookFor {d kc ks : Nat} {h0 : aH} {Q : Option aV → aH → Prop} {ls : List (List (Int × Int) × List (Int × Int))} {c0 : Int} {d0 : Int} (hO0 : OK h0) {a1 : Nat} (g1 : 114 ≤ a1) (t1 : tg h0 a1 = (102, 14)) {a2 : Nat} (g2 : 114 ≤ a2) (t2 : tg h0 a2 = (102, 14)) (pre0 : SKc h0) (pre1 : SGc ls h0) (pre2 : (0 ≤ c0 ∧ c0 < fO h0 1 4) ∧ cz h0 c0 a1) (pre3 : txC h0 9 = cfl 0 ls) (pre4 : ∀ l ∈ ls, lnG l) (pre5 : (0 ≤ d0 ∧ d0 < fO h0 1 4) ∧ cz h0 d0 a2) (hQ : ∀ r h', (∃ x : Int32, r = some (.inl x) ∧ (MNq (CD2 (fO h0 a1 8) 0 (fO h0 41 6) (fun k i c => CWd (gI h0 42) (gI h0 43) (gI h0 44) (OAz ls h0 a1 a2 k) i c) ((fO h0 a1 9 + 1)) (0)) x.toInt ∧ -1 ≤ x.toInt)) → OK h' → un [51, 222, 223, 5114, 21212] h0 h' → (SGc ls h') → Q r h') : uCall Mt (d + 7) 87 [(.inr (.inr (some 41))), (.inr (.inr (some a1))), (.inr (.inr (some a2)))] h0 kc ks Q := by
  have l_m1 : ((-1) : Int32).toInt = -1 := by decide
  have l_0 : ((0) : Int32).toInt = 0 := by decide
  have l_1 : ((1) : Int32).toInt = 1 := by decide
  have l_9 : ((9) : Int32).toInt = 9 := by decide
  have l_120 : ((120) : Int32).toInt = 120 := by decide
  refine uc_ink [some (.inr (.inr (some 41))), some (.inr (.inr (some a1))), some (.inr (.inr (some a2))), none, none, none, none, none, none, none, none] mt_87 (Nat.le_of_ble_eq_true rfl) rfl ?_
  obtain ⟨f2, f3, hc1, k4⟩ := ok_41 hO0
  have t5 := fO_of (k := 6) hc1 rfl
  refine ur_push rfl ?_
  refine ur_svIk [some (.inr (.inr (some 41))), some (.inr (.inr (some a1))), some (.inr (.inr (some a2))), some (.inl (-1)), none, none, none, none, none, none, none] rfl rfl ?_
  refine ur_ldA rfl rfl ?_
  obtain ⟨g26, f7, f8, f9, f10, f11, f12, f13, f14, f15, f16, q17, q18, o19, q20, hc6, k21, k22, k23, k24, k25⟩ := hO0.comet t1
  refine ur_get rfl hc6 rfl ?_
  refine ur_svIk [some (.inr (.inr (some 41))), some (.inr (.inr (some a1))), some (.inr (.inr (some a2))), some (.inl (-1)), some (.inl f15), none, none, none, none, none, none] rfl rfl ?_
  have L35 : ∀ (m36 : Nat) (x27 : Int32) (x28 : Int32) (u29 : Option aV) (u30 : Option aV) (u31 : Option aV) (u32 : Option aV) (u33 : Option aV) (u34 : Option aV) (h38 : aH) , OK h38 → un [51, 222, 223, 5114, 21212] h0 h38 → ((-60 ≤ x28.toInt ∧ x28.toInt ≤ 61) ∧ (-1 ≤ x27.toInt ∧ x27.toInt ≤ 9000000) ∧ fO h0 a1 8 ≤ x28.toInt ∧ x28.toInt ≤ fO h0 a1 9 + 1) → (MNq (CD2 (fO h0 a1 8) 0 (fO h0 41 6) (fun k i c => CWd (gI h0 42) (gI h0 43) (gI h0 44) (OAz ls h0 a1 a2 k) i c) (x28.toInt) (0)) x27.toInt) → (SGc ls h38) → ((62 - x28.toInt).toNat) < m36 → uRun oX7_nextToLookFor (uCall Mt (d + 6)) Q 8 ([some (.inr (.inr (some 41))), some (.inr (.inr (some a1))), some (.inr (.inr (some a2))), some (.inl x27), some (.inl x28), u29, u30, u31, u32, u33, u34], [], h38, kc, ks) := by
    intro m36
    induction m36 with
    | zero => intro x27 x28 u29 u30 u31 u32 u33 u34 h38 hO38 hu38 iv41 px39 px40 mm42; omega
    | succ m36 ih37 =>
      intro x27 x28 u29 u30 u31 u32 u33 u34 h38 hO38 hu38 iv41 px39 px40 mm42
      obtain ⟨f44, f45, hc43, k46⟩ := ok_41 hO38
      have t47 := fO_of (k := 6) hc43 rfl
      have tt48 : fO h38 41 6 = fO h0 41 6 := fO_keep (a := 41) (ci := 7) (n := 15) (k := 6) hO0 hO38 hu38 (by decide) rfl (by decide) rfl (by decide)
      obtain ⟨g69, f50, f51, f52, f53, f54, f55, f56, f57, f58, f59, q60, q61, o62, q63, hc49, k64, k65, k66, k67, k68⟩ := hO38.comet (hu38.tm t1 (by decide))
      have t70 := fO_of (k := 8) hc49 rfl
      have tt71 : fO h38 a1 8 = fO h0 a1 8 := fO_eA (fC_un hO0 hu38 g1 t1 (k := 8) (by decide) (by decide))
      have t72 := fO_of (k := 9) hc49 rfl
      have tt73 : fO h38 a1 9 = fO h0 a1 9 := fO_eA (fC_un hO0 hu38 g1 t1 (k := 9) (by decide) (by decide))
      refine ur_ldI rfl rfl ?_
      refine ur_ldA rfl rfl ?_
      refine ur_get rfl hc49 rfl ?_
      have tt74 : fO h38 a1 8 = fO h0 a1 8 := fO_eA (fC_un hO0 hu38 g1 t1 (k := 8) (by decide) (by decide))
      have tt75 : fO h38 a1 9 = fO h0 a1 9 := fO_eA (fC_un hO0 hu38 g1 t1 (k := 9) (by decide) (by decide))
      have z76 := any_r x28
      have z77 := any_r f59
      refine ur_if2 rfl (fun c78 => ?_) (fun c78 => ?_)
      · have t79 := lt_to c78
        refine ur_ldI rfl rfl ?_
        exact ur_ret rfl rfl (hQ _ _ ⟨_, rfl, ⟨(by have q := px39; rw [show x28.toInt = fO h0 a1 9 + 1 by omega] at q; exact q), by omega⟩⟩ hO38 hu38 px40)
      · have t80 := lt_no c78
        refine ur_ldA rfl rfl ?_
        refine ur_ldI rfl rfl ?_
        refine ur_inl rfl (rcv_of hc49) (Nat.le_of_ble_eq_true rfl) (Nat.le_of_ble_eq_true rfl) (sd_X2_passOf hO38 g69 (hu38.tm t1 (by decide)) _ (by show -60 ≤ x28.toInt ∧ x28.toInt ≤ 60; omega) (fun w81 hr82 => ?_))
        obtain ⟨x83, rfl, f84⟩ := hr82
        show uRun _ (uCall Mt _) _ 23 (_, [(.inl x83)], _, _, _)
        have tt85 : x83.toInt = cf h0 a1 x28.toInt := by rw [← cf_un hO0 hu38 g1 t1 (by decide)]; unfold cf; rw [fO_eA (fC_un hO0 hu38 g1 t1 (k := 8) (by decide) (by decide)), fO_eA (fC_un hO0 hu38 g1 t1 (k := 9) (by decide) (by decide))]; rw [if_pos (by omega)]; exact f84
        have tt86 := pre0.rg pre2.1 pre2.2 (k := x28.toInt) (by omega)
        refine ur_svIk [some (.inr (.inr (some 41))), some (.inr (.inr (some a1))), some (.inr (.inr (some a2))), some (.inl x27), some (.inl x28), some (.inl x83), u30, u31, u32, u33, u34] rfl rfl ?_
        refine ur_ldA rfl rfl ?_
        refine ur_ldA rfl rfl ?_
        refine ur_ldI rfl rfl ?_
        have t87 := fO_of (k := 14) hc43 rfl
        refine ur_inl rfl (rcv_of hc43) (Nat.le_of_ble_eq_true rfl) (Nat.le_of_ble_eq_true rfl) (sd_X7_gatherNear hO38 g2 (hu38.tm t2 (by decide)) _ (by show 0 ≤ x83.toInt ∧ x83.toInt ≤ 999999; omega) (pre0.un hO0 hO38 hu38 (by decide)) (cz_un hO0 hO38 hu38 pre5 (by decide) (by decide)) (fun w88 h91 hr89 hO91 hv91 hp90 => ?_))
        have hu91 : un [51, 222, 223, 5114, 21212] h38 h91 := hv91.mono (by decide)
        subst hr89
        show uRun _ (uCall Mt _) _ 32 (_, [], _, _, _)
        have nr92 := hp90
        rw [tt85] at nr92
        refine ur_push rfl ?_
        refine ur_svIk [some (.inr (.inr (some 41))), some (.inr (.inr (some a1))), some (.inr (.inr (some a2))), some (.inl x27), some (.inl x28), some (.inl x83), some (.inl 0), u31, u32, u33, u34] rfl rfl ?_
        obtain ⟨f103, f104, hc102, k105⟩ := ok_41 hO91
        have t106 := fO_of (k := 6) hc102 rfl
        have L99 : ∀ (m100 : Nat) (x93 : Int32) (x94 : Int32) (u95 : Option aV) (u96 : Option aV) (u97 : Option aV) (u98 : Option aV) (h107 : aH) , OK h107 → un [51, 222, 223, 5114, 21212] h91 h107 → ((0 ≤ x94.toInt ∧ x94.toInt ≤ 10) ∧ (-1 ≤ x93.toInt ∧ x93.toInt ≤ 9000000) ∧ x94.toInt ≤ fO h0 41 6) → (MNq (CD2 (fO h0 a1 8) 0 (fO h0 41 6) (fun k i c => CWd (gI h0 42) (gI h0 43) (gI h0 44) (OAz ls h0 a1 a2 k) i c) (x28.toInt) (x94.toInt)) x93.toInt) → (NRn h107 a2 (cf h0 a1 x28.toInt)) → (SGc ls h107) → ((11 - x94.toInt).toNat) < m100 → uRun oX7_nextToLookFor (uCall Mt (d + 6)) Q 35 ([some (.inr (.inr (some 41))), some (.inr (.inr (some a1))), some (.inr (.inr (some a2))), some (.inl x93), some (.inl x28), some (.inl x83), some (.inl x94), u95, u96, u97, u98], [], h107, kc, ks) := by
          intro m100
          induction m100 with
          | zero => intro x93 x94 u95 u96 u97 u98 h107 hO107 hu107 iv111 px108 px109 px110 mm112; omega
          | succ m100 ih101 =>
            intro x93 x94 u95 u96 u97 u98 h107 hO107 hu107 iv111 px108 px109 px110 mm112
            obtain ⟨f114, f115, hc113, k116⟩ := ok_41 hO107
            have t117 := fO_of (k := 6) hc113 rfl
            have tt118 : fO h107 41 6 = fO h0 41 6 := fO_keep (a := 41) (ci := 7) (n := 15) (k := 6) hO0 hO107 (hu38.tr (hu91.tr hu107)) (by decide) rfl (by decide) rfl (by decide)
            obtain ⟨g139, f120, f121, f122, f123, f124, f125, f126, f127, f128, f129, q130, q131, o132, q133, hc119, k134, k135, k136, k137, k138⟩ := hO107.comet (hu107.tm (hu91.tm (hu38.tm t1 (by decide)) (by decide)) (by decide))
            have t140 := fO_of (k := 8) hc119 rfl
            have tt141 : fO h107 a1 8 = fO h0 a1 8 := fO_eA (fC_un hO0 (hu38.tr (hu91.tr hu107)) g1 t1 (k := 8) (by decide) (by decide))
            have t142 := fO_of (k := 9) hc119 rfl
            have tt143 : fO h107 a1 9 = fO h0 a1 9 := fO_eA (fC_un hO0 (hu38.tr (hu91.tr hu107)) g1 t1 (k := 9) (by decide) (by decide))
            refine ur_ldI rfl rfl ?_
            refine ur_ldA rfl rfl ?_
            refine ur_get rfl hc113 rfl ?_
            have z144 := any_r x94
            have z145 := any_r f114
            refine ur_if2 rfl (fun c146 => ?_) (fun c146 => ?_)
            · have t147 := le_to c146
              refine ur_incV (fun z => [some (.inr (.inr (some 41))), some (.inr (.inr (some a1))), some (.inr (.inr (some a2))), some (.inl x93), some (.inl z), some (.inl x83), some (.inl x94), u95, u96, u97, u98]) rfl rfl (fun _ => rfl) (fun x148 e149 => ?_)
              have t150 := ti_add e149 (by omega) (by omega)
              refine ur_go rfl ?_
              have z151 := any_r x93
              have z152 := any_r x148
              have tt153 : fO h107 41 6 = fO h0 41 6 := fO_keep (a := 41) (ci := 7) (n := 15) (k := 6) hO0 hO107 (hu38.tr (hu91.tr hu107)) (by decide) rfl (by decide) rfl (by decide)
              exact ih37 x93 x148 _ _ _ _ _ _ _ hO107 (hu38.tr (hu91.tr hu107)) (by omega) (px108.c (fun c => CD2.k (by omega) (by omega) (by omega))) px110 (by omega)
            · have t154 := le_no c146
              refine ur_ldA rfl rfl ?_
              refine ur_get rfl hc113 rfl ?_
              refine ur_ldI rfl rfl ?_
              obtain ⟨xs156, hc155, hn157, he158⟩ := hO107.int (hO107.fix 43 (by decide) rfl)
              refine ur_aldV rfl hc155 hn157 (by omega) (fun x159 hx160 => ?_)
              have t161 := gI_of (j := x94) hc155 hx160
              have t162 := gI_keep (a := 43) (kd := 0) (n := 10) hO0 (hu38.tr (hu91.tr hu107)) (x94 : Int32).toInt (by decide) rfl (by decide) rfl (by decide) (by decide)
              have t163 : 0 ≤ x159.toInt ∧ x159.toInt ≤ 999999 := he158 _ _ hx160
              refine ur_ldI rfl rfl ?_
              refine ur_push rfl ?_
              refine ur_binV rfl (fun x164 e165 => ?_)
              have z166 := any_r x83
              have t167 := ti_sub e165 (by omega) (by omega)
              refine ur_maxV rfl (by show ¬ 9 ≤ 2; decide) (fun x168 t169 e170 => ?_)
              refine ur_svIk [some (.inr (.inr (some 41))), some (.inr (.inr (some a1))), some (.inr (.inr (some a2))), some (.inl x93), some (.inl x28), some (.inl x83), some (.inl x94), some (.inl x168), u96, u97, u98] rfl rfl ?_
              refine ur_ldA rfl rfl ?_
              refine ur_get rfl hc113 rfl ?_
              refine ur_ldI rfl rfl ?_
              obtain ⟨xs172, hc171, hn173, he174⟩ := hO107.int (hO107.fix 44 (by decide) rfl)
              refine ur_aldV rfl hc171 hn173 (by omega) (fun x175 hx176 => ?_)
              have t177 := gI_of (j := x94) hc171 hx176
              have t178 := gI_keep (a := 44) (kd := 0) (n := 10) hO0 (hu38.tr (hu91.tr hu107)) (x94 : Int32).toInt (by decide) rfl (by decide) rfl (by decide) (by decide)
              have t179 : 0 ≤ x175.toInt ∧ x175.toInt ≤ 999999 := he174 _ _ hx176
              refine ur_ldI rfl rfl ?_
              refine ur_push rfl ?_
              refine ur_binV rfl (fun x180 e181 => ?_)
              have t182 := ti_add e181 (by omega) (by omega)
              refine ur_minV rfl (by show ¬ 9 ≤ 2; decide) (fun x183 t184 e185 => ?_)
              refine ur_svIk [some (.inr (.inr (some 41))), some (.inr (.inr (some a1))), some (.inr (.inr (some a2))), some (.inl x93), some (.inl x28), some (.inl x83), some (.inl x94), some (.inl x168), some (.inl x183), u97, u98] rfl rfl ?_
              refine ur_ldI rfl rfl ?_
              refine ur_push rfl ?_
              refine ur_if2 rfl (fun c186 => ?_) (fun c186 => ?_)
              · have t187 := eq_to c186
                refine ur_ldA rfl rfl ?_
                refine ur_ldA rfl rfl ?_
                refine ur_ldA rfl rfl ?_
                refine ur_ldI rfl rfl ?_
                refine ur_ldA rfl rfl ?_
                refine ur_get rfl hc113 rfl ?_
                refine ur_ldI rfl rfl ?_
                obtain ⟨xs189, hc188, hn190, he191⟩ := hO107.int (hO107.fix 42 (by decide) rfl)
                refine ur_aldV rfl hc188 hn190 (by omega) (fun x192 hx193 => ?_)
                have t194 := gI_of (j := x94) hc188 hx193
                have t195 := gI_keep (a := 42) (kd := 0) (n := 10) hO0 (hu38.tr (hu91.tr hu107)) (x94 : Int32).toInt (by decide) rfl (by decide) rfl (by decide) (by decide)
                have t196 : 0 ≤ x192.toInt ∧ x192.toInt ≤ 8 := he191 _ _ hx193
                refine ur_ldI rfl rfl ?_
                refine ur_ldI rfl rfl ?_
                have z197 := any_r x168
                have z198 := any_r x183
                refine ur_inl rfl (rcv_of hc113) (Nat.le_of_ble_eq_true rfl) (Nat.le_of_ble_eq_true rfl) (sd_X7_firstOfOneAlone hO107 g139 (hu107.tm (hu91.tm (hu38.tm t1 (by decide)) (by decide)) (by decide)) g2 (hu107.tm (hu91.tm (hu38.tm t2 (by decide)) (by decide)) (by decide)) _ (by show -60 ≤ x28.toInt ∧ x28.toInt ≤ 60; omega) _ (by show 0 ≤ x192.toInt ∧ x192.toInt ≤ 8; omega) _ (by show 0 ≤ x168.toInt ∧ x168.toInt ≤ 2147483647; omega) _ (by show -2147483648 ≤ x183.toInt ∧ x183.toInt ≤ 999999; omega) (((pre0.un hO0 hO38 hu38 (by decide)).un hO38 hO91 hv91 (by decide)).un hO91 hO107 hu107 (by decide)) px110 (cz_un hO0 hO107 (hu38.tr (hu91.tr hu107)) pre2 (by decide) (by decide)) ((txC_un hO0 hO107 (hu38.tr (hu91.tr hu107)) (by decide) 9 (by decide)).trans pre3) pre4 (cz_un hO0 hO107 (hu38.tr (hu91.tr hu107)) pre5 (by decide) (by decide)) (by rw [fO_eA (fC_un hO0 (hu38.tr (hu91.tr hu107)) g1 t1 (k := 8) (by decide) (by decide)), fO_eA (fC_un hO0 (hu38.tr (hu91.tr hu107)) g1 t1 (k := 9) (by decide) (by decide))]; omega) (by rw [cf_un hO0 (hu38.tr (hu91.tr hu107)) g1 t1 (by decide)]; exact px109) (by rw [cf_un hO0 (hu38.tr (hu91.tr hu107)) g1 t1 (by decide)]; omega) (fun w199 h202 hr200 hO202 hv202 hp201 => ?_))
                have hu202 : un [51, 222, 223, 5114, 21212] h107 h202 := hv202.mono (by decide)
                obtain ⟨x203, rfl, f204⟩ := hr200
                show uRun _ (uCall Mt _) _ 113 (_, [(.inl x203)], _, _, _)
                refine ur_svIk [some (.inr (.inr (some 41))), some (.inr (.inr (some a1))), some (.inr (.inr (some a2))), some (.inl x93), some (.inl x28), some (.inl x83), some (.inl x94), some (.inl x168), some (.inl x183), some (.inl x203), u98] rfl rfl ?_
                refine ur_ldI rfl rfl ?_
                refine ur_push rfl ?_
                refine ur_if2 rfl (fun c205 => ?_) (fun c205 => ?_)
                · have t206 := ne_to c205
                  refine ur_ldI rfl rfl ?_
                  refine ur_push rfl ?_
                  refine ur_binV rfl (fun x207 e208 => ?_)
                  have z209 := any_r x203
                  have t210 := ti_mulL e208 l_9 (by omega) (by omega)
                  refine ur_ldA rfl rfl ?_
                  refine ur_get rfl (hv202.ko (n := 15) hc113 rfl (wid_f (by decide)) (by decide)) rfl ?_
                  have t211 := fO_of (k := 6) (hv202.ko (n := 15) hc113 rfl (wid_f (by decide)) (by decide)) rfl
                  refine ur_ldI rfl rfl ?_
                  refine ur_aldV rfl (hv202.ka (n := 10) hc188 hn190 rfl (by decide) (wid_f (by decide)) (by decide)) hn190 (by omega) (fun x212 hx213 => ?_)
                  obtain rfl : x192 = x212 := Option.some.inj (hx193.symm.trans hx213)
                  refine ur_binV rfl (fun x214 e215 => ?_)
                  have z216 := any_r x207
                  have z217 := any_r x192
                  have t218 := ti_add e215 (by omega) (by omega)
                  refine ur_svIk [some (.inr (.inr (some 41))), some (.inr (.inr (some a1))), some (.inr (.inr (some a2))), some (.inl x93), some (.inl x28), some (.inl x83), some (.inl x94), some (.inl x168), some (.inl x183), some (.inl x203), some (.inl x214)] rfl rfl ?_
                  refine ur_ldI rfl rfl ?_
                  refine ur_push rfl ?_
                  refine ur_if2 rfl (fun c219 => ?_) (fun c219 => ?_)
                  · have t220 := eq_to c219
                    refine ur_ldI rfl rfl ?_
                    refine ur_svIk [some (.inr (.inr (some 41))), some (.inr (.inr (some a1))), some (.inr (.inr (some a2))), some (.inl x214), some (.inl x28), some (.inl x83), some (.inl x94), some (.inl x168), some (.inl x183), some (.inl x203), some (.inl x214)] rfl rfl ?_
                    refine ur_incV (fun z => [some (.inr (.inr (some 41))), some (.inr (.inr (some a1))), some (.inr (.inr (some a2))), some (.inl x214), some (.inl x28), some (.inl x83), some (.inl z), some (.inl x168), some (.inl x183), some (.inl x203), some (.inl x214)]) rfl rfl (fun _ => rfl) (fun x221 e222 => ?_)
                    have t223 := ti_add e222 (by omega) (by omega)
                    refine ur_go rfl ?_
                    have z224 := any_r x214
                    have z225 := any_r x221
                    have tt226 : fO h202 41 6 = fO h0 41 6 := fO_keep (a := 41) (ci := 7) (n := 15) (k := 6) hO0 hO202 (hu38.tr (hu91.tr (hu107.tr hu202))) (by decide) rfl (by decide) rfl (by decide)
                    exact ih101 x214 x221 _ _ _ _ _ hO202 (hu107.tr hu202) (by omega) (px108.st (p := gI h0 42 x94.toInt) (lo := x168.toInt) (hi := x183.toInt) (hi' := x183.toInt) (y := x203.toInt) (by omega) (by omega) (by have q := f204.1; have q := q.c (P' := fun d => OAz ls h0 a1 a2 x28.toInt x192.toInt d) (fun j _ _ => (OAz.un hO0 (hu38.tr (hu91.tr hu107)) ⟨g1, t1⟩ ⟨g2, t2⟩ (by decide)).symm); rw [show x192.toInt = gI h0 42 x94.toInt by omega] at q; exact q) (by omega) (fun c => (CD2.s (by omega) (by omega)).trans (or_congr Iff.rfl (CWd.e (t := cf h0 a1 x28.toInt) rfl (by omega) (by omega) (fun q d h => h.1.1)))) (by omega)) (px109.un hO107 hO202 hv202 g2 (hu107.tm (hu91.tm (hu38.tm t2 (by decide)) (by decide)) (by decide)) (by decide)) hp201 (by omega)
                  · have t227 := eq_no c219
                    exfalso
                    omega
                · have t228 := ne_no c205
                  refine ur_go rfl ?_
                  refine ur_incV (fun z => [some (.inr (.inr (some 41))), some (.inr (.inr (some a1))), some (.inr (.inr (some a2))), some (.inl x93), some (.inl x28), some (.inl x83), some (.inl z), some (.inl x168), some (.inl x183), some (.inl x203), u98]) rfl rfl (fun _ => rfl) (fun x229 e230 => ?_)
                  have t231 := ti_add e230 (by omega) (by omega)
                  refine ur_go rfl ?_
                  have t232 := fO_of (k := 6) (hv202.ko (n := 15) hc113 rfl (wid_f (by decide)) (by decide)) rfl
                  have z233 := any_r x93
                  have z234 := any_r x229
                  have tt235 : fO h202 41 6 = fO h0 41 6 := fO_keep (a := 41) (ci := 7) (n := 15) (k := 6) hO0 hO202 (hu38.tr (hu91.tr (hu107.tr hu202))) (by decide) rfl (by decide) rfl (by decide)
                  exact ih101 x93 x229 _ _ _ _ _ hO202 (hu107.tr hu202) (by omega) (px108.st (p := gI h0 42 x94.toInt) (lo := x168.toInt) (hi := x183.toInt) (hi' := x183.toInt) (y := x203.toInt) (by omega) (by omega) (by have q := f204.1; have q := q.c (P' := fun d => OAz ls h0 a1 a2 x28.toInt x192.toInt d) (fun j _ _ => (OAz.un hO0 (hu38.tr (hu91.tr hu107)) ⟨g1, t1⟩ ⟨g2, t2⟩ (by decide)).symm); rw [show x192.toInt = gI h0 42 x94.toInt by omega] at q; exact q) (by omega) (fun c => (CD2.s (by omega) (by omega)).trans (or_congr Iff.rfl (CWd.e (t := cf h0 a1 x28.toInt) rfl (by omega) (by omega) (fun q d h => h.1.1)))) (by omega)) (px109.un hO107 hO202 hv202 g2 (hu107.tm (hu91.tm (hu38.tm t2 (by decide)) (by decide)) (by decide)) (by decide)) hp201 (by omega)
              · have t236 := eq_no c186
                refine ur_ldI rfl rfl ?_
                refine ur_ldI rfl rfl ?_
                refine ur_push rfl ?_
                refine ur_divV rfl (by decide) (fun x237 e238 => ?_)
                have z239 := any_r x93
                have t240 := ti_div e238 l_9 (by decide) (by omega)
                refine ur_minV rfl (by show ¬ 9 ≤ 2; decide) (fun x241 t242 e243 => ?_)
                refine ur_svIk [some (.inr (.inr (some 41))), some (.inr (.inr (some a1))), some (.inr (.inr (some a2))), some (.inl x93), some (.inl x28), some (.inl x83), some (.inl x94), some (.inl x168), some (.inl x241), u97, u98] rfl rfl ?_
                refine ur_ldA rfl rfl ?_
                refine ur_ldA rfl rfl ?_
                refine ur_ldA rfl rfl ?_
                refine ur_ldI rfl rfl ?_
                refine ur_ldA rfl rfl ?_
                refine ur_get rfl hc113 rfl ?_
                refine ur_ldI rfl rfl ?_
                obtain ⟨xs245, hc244, hn246, he247⟩ := hO107.int (hO107.fix 42 (by decide) rfl)
                refine ur_aldV rfl hc244 hn246 (by omega) (fun x248 hx249 => ?_)
                have t250 := gI_of (j := x94) hc244 hx249
                have t251 := gI_keep (a := 42) (kd := 0) (n := 10) hO0 (hu38.tr (hu91.tr hu107)) (x94 : Int32).toInt (by decide) rfl (by decide) rfl (by decide) (by decide)
                have t252 : 0 ≤ x248.toInt ∧ x248.toInt ≤ 8 := he247 _ _ hx249
                refine ur_ldI rfl rfl ?_
                refine ur_ldI rfl rfl ?_
                have z253 := any_r x168
                have z254 := any_r x241
                refine ur_inl rfl (rcv_of hc113) (Nat.le_of_ble_eq_true rfl) (Nat.le_of_ble_eq_true rfl) (sd_X7_firstOfOneAlone hO107 g139 (hu107.tm (hu91.tm (hu38.tm t1 (by decide)) (by decide)) (by decide)) g2 (hu107.tm (hu91.tm (hu38.tm t2 (by decide)) (by decide)) (by decide)) _ (by show -60 ≤ x28.toInt ∧ x28.toInt ≤ 60; omega) _ (by show 0 ≤ x248.toInt ∧ x248.toInt ≤ 8; omega) _ (by show 0 ≤ x168.toInt ∧ x168.toInt ≤ 2147483647; omega) _ (by show -2147483648 ≤ x241.toInt ∧ x241.toInt ≤ 999999; omega) (((pre0.un hO0 hO38 hu38 (by decide)).un hO38 hO91 hv91 (by decide)).un hO91 hO107 hu107 (by decide)) px110 (cz_un hO0 hO107 (hu38.tr (hu91.tr hu107)) pre2 (by decide) (by decide)) ((txC_un hO0 hO107 (hu38.tr (hu91.tr hu107)) (by decide) 9 (by decide)).trans pre3) pre4 (cz_un hO0 hO107 (hu38.tr (hu91.tr hu107)) pre5 (by decide) (by decide)) (by rw [fO_eA (fC_un hO0 (hu38.tr (hu91.tr hu107)) g1 t1 (k := 8) (by decide) (by decide)), fO_eA (fC_un hO0 (hu38.tr (hu91.tr hu107)) g1 t1 (k := 9) (by decide) (by decide))]; omega) (by rw [cf_un hO0 (hu38.tr (hu91.tr hu107)) g1 t1 (by decide)]; exact px109) (by rw [cf_un hO0 (hu38.tr (hu91.tr hu107)) g1 t1 (by decide)]; omega) (fun w255 h258 hr256 hO258 hv258 hp257 => ?_))
                have hu258 : un [51, 222, 223, 5114, 21212] h107 h258 := hv258.mono (by decide)
                obtain ⟨x259, rfl, f260⟩ := hr256
                show uRun _ (uCall Mt _) _ 113 (_, [(.inl x259)], _, _, _)
                refine ur_svIk [some (.inr (.inr (some 41))), some (.inr (.inr (some a1))), some (.inr (.inr (some a2))), some (.inl x93), some (.inl x28), some (.inl x83), some (.inl x94), some (.inl x168), some (.inl x241), some (.inl x259), u98] rfl rfl ?_
                refine ur_ldI rfl rfl ?_
                refine ur_push rfl ?_
                refine ur_if2 rfl (fun c261 => ?_) (fun c261 => ?_)
                · have t262 := ne_to c261
                  refine ur_ldI rfl rfl ?_
                  refine ur_push rfl ?_
                  refine ur_binV rfl (fun x263 e264 => ?_)
                  have z265 := any_r x259
                  have t266 := ti_mulL e264 l_9 (by omega) (by omega)
                  refine ur_ldA rfl rfl ?_
                  refine ur_get rfl (hv258.ko (n := 15) hc113 rfl (wid_f (by decide)) (by decide)) rfl ?_
                  have t267 := fO_of (k := 6) (hv258.ko (n := 15) hc113 rfl (wid_f (by decide)) (by decide)) rfl
                  refine ur_ldI rfl rfl ?_
                  refine ur_aldV rfl (hv258.ka (n := 10) hc244 hn246 rfl (by decide) (wid_f (by decide)) (by decide)) hn246 (by omega) (fun x268 hx269 => ?_)
                  obtain rfl : x248 = x268 := Option.some.inj (hx249.symm.trans hx269)
                  refine ur_binV rfl (fun x270 e271 => ?_)
                  have z272 := any_r x263
                  have z273 := any_r x248
                  have t274 := ti_add e271 (by omega) (by omega)
                  refine ur_svIk [some (.inr (.inr (some 41))), some (.inr (.inr (some a1))), some (.inr (.inr (some a2))), some (.inl x93), some (.inl x28), some (.inl x83), some (.inl x94), some (.inl x168), some (.inl x241), some (.inl x259), some (.inl x270)] rfl rfl ?_
                  refine ur_ldI rfl rfl ?_
                  refine ur_push rfl ?_
                  refine ur_if2 rfl (fun c275 => ?_) (fun c275 => ?_)
                  · have t276 := eq_to c275
                    exfalso
                    omega
                  · have t277 := eq_no c275
                    refine ur_ldI rfl rfl ?_
                    refine ur_ldI rfl rfl ?_
                    have z278 := any_r x270
                    refine ur_if2 rfl (fun c279 => ?_) (fun c279 => ?_)
                    · have t280 := le_to c279
                      refine ur_incV (fun z => [some (.inr (.inr (some 41))), some (.inr (.inr (some a1))), some (.inr (.inr (some a2))), some (.inl x93), some (.inl x28), some (.inl x83), some (.inl z), some (.inl x168), some (.inl x241), some (.inl x259), some (.inl x270)]) rfl rfl (fun _ => rfl) (fun x281 e282 => ?_)
                      have t283 := ti_add e282 (by omega) (by omega)
                      refine ur_go rfl ?_
                      have z284 := any_r x281
                      have tt285 : fO h258 41 6 = fO h0 41 6 := fO_keep (a := 41) (ci := 7) (n := 15) (k := 6) hO0 hO258 (hu38.tr (hu91.tr (hu107.tr hu258))) (by decide) rfl (by decide) rfl (by decide)
                      exact ih101 x93 x281 _ _ _ _ _ hO258 (hu107.tr hu258) (by omega) (px108.st (p := gI h0 42 x94.toInt) (lo := x168.toInt) (hi := x183.toInt) (hi' := x241.toInt) (y := x259.toInt) (by omega) (by omega) (by have q := f260.1; have q := q.c (P' := fun d => OAz ls h0 a1 a2 x28.toInt x248.toInt d) (fun j _ _ => (OAz.un hO0 (hu38.tr (hu91.tr hu107)) ⟨g1, t1⟩ ⟨g2, t2⟩ (by decide)).symm); rw [show x248.toInt = gI h0 42 x94.toInt by omega] at q; exact q) (by omega) (fun c => (CD2.s (by omega) (by omega)).trans (or_congr Iff.rfl (CWd.e (t := cf h0 a1 x28.toInt) rfl (by omega) (by omega) (fun q d h => h.1.1)))) (by omega)) (px109.un hO107 hO258 hv258 g2 (hu107.tm (hu91.tm (hu38.tm t2 (by decide)) (by decide)) (by decide)) (by decide)) hp257 (by omega)
                    · have t286 := le_no c279
                      refine ur_ldI rfl rfl ?_
                      refine ur_svIk [some (.inr (.inr (some 41))), some (.inr (.inr (some a1))), some (.inr (.inr (some a2))), some (.inl x270), some (.inl x28), some (.inl x83), some (.inl x94), some (.inl x168), some (.inl x241), some (.inl x259), some (.inl x270)] rfl rfl ?_
                      refine ur_incV (fun z => [some (.inr (.inr (some 41))), some (.inr (.inr (some a1))), some (.inr (.inr (some a2))), some (.inl x270), some (.inl x28), some (.inl x83), some (.inl z), some (.inl x168), some (.inl x241), some (.inl x259), some (.inl x270)]) rfl rfl (fun _ => rfl) (fun x287 e288 => ?_)
                      have t289 := ti_add e288 (by omega) (by omega)
                      refine ur_go rfl ?_
                      have z290 := any_r x287
                      have tt291 : fO h258 41 6 = fO h0 41 6 := fO_keep (a := 41) (ci := 7) (n := 15) (k := 6) hO0 hO258 (hu38.tr (hu91.tr (hu107.tr hu258))) (by decide) rfl (by decide) rfl (by decide)
                      exact ih101 x270 x287 _ _ _ _ _ hO258 (hu107.tr hu258) (by omega) (px108.st (p := gI h0 42 x94.toInt) (lo := x168.toInt) (hi := x183.toInt) (hi' := x241.toInt) (y := x259.toInt) (by omega) (by omega) (by have q := f260.1; have q := q.c (P' := fun d => OAz ls h0 a1 a2 x28.toInt x248.toInt d) (fun j _ _ => (OAz.un hO0 (hu38.tr (hu91.tr hu107)) ⟨g1, t1⟩ ⟨g2, t2⟩ (by decide)).symm); rw [show x248.toInt = gI h0 42 x94.toInt by omega] at q; exact q) (by omega) (fun c => (CD2.s (by omega) (by omega)).trans (or_congr Iff.rfl (CWd.e (t := cf h0 a1 x28.toInt) rfl (by omega) (by omega) (fun q d h => h.1.1)))) (by omega)) (px109.un hO107 hO258 hv258 g2 (hu107.tm (hu91.tm (hu38.tm t2 (by decide)) (by decide)) (by decide)) (by decide)) hp257 (by omega)
                · have t292 := ne_no c261
                  refine ur_go rfl ?_
                  refine ur_incV (fun z => [some (.inr (.inr (some 41))), some (.inr (.inr (some a1))), some (.inr (.inr (some a2))), some (.inl x93), some (.inl x28), some (.inl x83), some (.inl z), some (.inl x168), some (.inl x241), some (.inl x259), u98]) rfl rfl (fun _ => rfl) (fun x293 e294 => ?_)
                  have t295 := ti_add e294 (by omega) (by omega)
                  refine ur_go rfl ?_
                  have t296 := fO_of (k := 6) (hv258.ko (n := 15) hc113 rfl (wid_f (by decide)) (by decide)) rfl
                  have z297 := any_r x293
                  have tt298 : fO h258 41 6 = fO h0 41 6 := fO_keep (a := 41) (ci := 7) (n := 15) (k := 6) hO0 hO258 (hu38.tr (hu91.tr (hu107.tr hu258))) (by decide) rfl (by decide) rfl (by decide)
                  exact ih101 x93 x293 _ _ _ _ _ hO258 (hu107.tr hu258) (by omega) (px108.st (p := gI h0 42 x94.toInt) (lo := x168.toInt) (hi := x183.toInt) (hi' := x241.toInt) (y := x259.toInt) (by omega) (by omega) (by have q := f260.1; have q := q.c (P' := fun d => OAz ls h0 a1 a2 x28.toInt x248.toInt d) (fun j _ _ => (OAz.un hO0 (hu38.tr (hu91.tr hu107)) ⟨g1, t1⟩ ⟨g2, t2⟩ (by decide)).symm); rw [show x248.toInt = gI h0 42 x94.toInt by omega] at q; exact q) (by omega) (fun c => (CD2.s (by omega) (by omega)).trans (or_congr Iff.rfl (CWd.e (t := cf h0 a1 x28.toInt) rfl (by omega) (by omega) (fun q d h => h.1.1)))) (by omega)) (px109.un hO107 hO258 hv258 g2 (hu107.tm (hu91.tm (hu38.tm t2 (by decide)) (by decide)) (by decide)) (by decide)) hp257 (by omega)
        have z299 := any_r x27
        exact L99 _ x27 0 (u31) (u32) (u33) (u34) _ hO91 un.rf (by omega) px39 nr92 (px40.uk hO38 hO91 hv91 (by decide)) (Nat.lt_succ_self _)
  have z300 := any_r f15
  have t301 := fO_of (k := 8) hc6 rfl
  have t302 := fO_of (k := 9) hc6 rfl
  exact L35 _ (-1) f15 (none) (none) (none) (none) (none) (none) _ hO0 un.rf (by omega) (MNq.z (by omega) (fun c => CD2.z (by omega) rfl)) pre1 (Nat.lt_succ_self _)

set_option maxRecDepth 20000 in
set_option maxHeartbeats 4000000 in
theorem sd_X11_next {d kc ks : Nat} {h0 : aH} {Q : Option aV → aH → Prop} {ls : List (List (Int × Int) × List (Int × Int))} (hO0 : OK h0) (a1 : Int32) (a2 : Int32) (a3 : Int32) (pre0 : SKc h0) (pre1 : SGc ls h0) (pre2 : txC h0 9 = cfl 0 ls) (pre3 : ∀ l ∈ ls, lnG l) (hQ : ∀ r h', (∃ x : Int32, r = some (.inl x) ∧ ((¬ ((0 ≤ a1.toInt ∧ a1.toInt < fO h0 1 4) ∧ (0 ≤ a2.toInt ∧ a2.toInt < fO h0 1 4) ∧ a1.toInt ≠ a2.toInt ∧ (0 ≤ a3.toInt ∧ a3.toInt ≤ 1)) → x.toInt = -1) ∧ (((0 ≤ a1.toInt ∧ a1.toInt < fO h0 1 4) ∧ (0 ≤ a2.toInt ∧ a2.toInt < fO h0 1 4) ∧ a1.toInt ≠ a2.toInt ∧ (0 ≤ a3.toInt ∧ a3.toInt ≤ 1)) → ∃ z o y, cz h0 a1.toInt z ∧ cz h0 a2.toInt o ∧ MNq (CD2 (fO h0 z 8) 0 (fO h0 41 6) (fun k i c => CWd (gI h0 42) (gI h0 43) (gI h0 44) (OAz ls h0 z o k) i c) (fO h0 z 9 + 1) 0) y ∧ (y = -1 → x.toInt = -2) ∧ (y ≠ -1 → (a3.toInt = 0 → x.toInt = y / 9) ∧ (a3.toInt = 1 → x.toInt = y % 9))))) → OK h' → un [51, 222, 223, 5114, 21212] h0 h' → (SGc ls h') → Q r h') : uCall Mt (d + 8) 156 [(.inr (.inr (some 0))), (.inl a1), (.inl a2), (.inl a3)] h0 kc ks Q := by
  have l_m2 : ((-2) : Int32).toInt = -2 := by decide
  have l_m1 : ((-1) : Int32).toInt = -1 := by decide
  have l_0 : ((0) : Int32).toInt = 0 := by decide
  have l_1 : ((1) : Int32).toInt = 1 := by decide
  have l_9 : ((9) : Int32).toInt = 9 := by decide
  refine uc_ink [some (.inr (.inr (some 0))), some (.inl a1), some (.inl a2), some (.inl a3), none, none, none] mt_156 (Nat.le_of_ble_eq_true rfl) rfl ?_
  refine ur_ldA rfl rfl ?_
  obtain ⟨hc1, k2⟩ := ok_0 hO0
  refine ur_get rfl hc1 rfl ?_
  refine ur_ldI rfl rfl ?_
  obtain ⟨f4, f5, hc3, k6⟩ := ok_1 hO0
  have t7 := fO_of (k := 4) hc3 rfl
  refine ur_inl rfl (rcv_of hc3) (Nat.le_of_ble_eq_true rfl) (Nat.le_of_ble_eq_true rfl) (sd_X6_cometAt hO0 _ pre0 (fun w8 hr9 => ?_))
  obtain ⟨o10, rfl, k11, t12, t13⟩ := hr9
  show uRun _ (uCall Mt _) _ 8 (_, [(.inr (.inr o10))], _, _, _)
  refine ur_svAk [some (.inr (.inr (some 0))), some (.inl a1), some (.inl a2), some (.inl a3), some (.inr (.inr o10)), none, none] rfl rfl ?_
  refine ur_ldA rfl rfl ?_
  refine ur_get rfl hc1 rfl ?_
  refine ur_ldI rfl rfl ?_
  refine ur_inl rfl (rcv_of hc3) (Nat.le_of_ble_eq_true rfl) (Nat.le_of_ble_eq_true rfl) (sd_X6_cometAt hO0 _ pre0 (fun w14 hr15 => ?_))
  obtain ⟨o16, rfl, k17, t18, t19⟩ := hr15
  show uRun _ (uCall Mt _) _ 18 (_, [(.inr (.inr o16))], _, _, _)
  refine ur_svAk [some (.inr (.inr (some 0))), some (.inl a1), some (.inl a2), some (.inl a3), some (.inr (.inr o10)), some (.inr (.inr o16)), none] rfl rfl ?_
  refine ur_ldA rfl rfl ?_
  cases o10 with
  | none =>
    refine ur_nulN rfl ?_
    have t21 := t12 rfl
    refine ur_push rfl ?_
    exact ur_ret rfl rfl (hQ _ _ ⟨_, rfl, ⟨fun _ => by omega, fun q => by exfalso; omega⟩⟩ hO0 un.rf pre1)
  | some r20 =>
    refine ur_nulS rfl ?_
    have k22 := k11 _ rfl
    have t23 := t13 _ rfl
    refine ur_ldA rfl rfl ?_
    cases o16 with
    | none =>
      refine ur_nulN rfl ?_
      have t25 := t18 rfl
      refine ur_push rfl ?_
      exact ur_ret rfl rfl (hQ _ _ ⟨_, rfl, ⟨fun _ => by omega, fun q => by exfalso; omega⟩⟩ hO0 un.rf pre1)
    | some r24 =>
      refine ur_nulS rfl ?_
      have k26 := k17 _ rfl
      have t27 := t19 _ rfl
      refine ur_ldI rfl rfl ?_
      refine ur_ldI rfl rfl ?_
      have z28 := any_r a1
      have z29 := any_r a2
      refine ur_if2 rfl (fun c30 => ?_) (fun c30 => ?_)
      · have t31 := eq_to c30
        refine ur_push rfl ?_
        exact ur_ret rfl rfl (hQ _ _ ⟨_, rfl, ⟨fun _ => by omega, fun q => by exfalso; omega⟩⟩ hO0 un.rf pre1)
      · have t32 := eq_no c30
        refine ur_ldI rfl rfl ?_
        refine ur_push rfl ?_
        refine ur_push rfl ?_
        refine ur_callv rfl rfl (Nat.le_of_ble_eq_true rfl) (Nat.le_of_ble_eq_true rfl) rfl (sp_within _ _ _ _ _) ?_
        refine ur_neB rfl (fun c35 => ?_) (fun c35 => ?_)
        · have t36 := wi_toL c35 l_0 l_1
          refine ur_ldA rfl rfl ?_
          refine ur_get rfl hc1 rfl ?_
          refine ur_ldA rfl rfl ?_
          refine ur_ldA rfl rfl ?_
          obtain ⟨f38, f39, hc37, k40⟩ := ok_41 hO0
          have t41 := fO_of (k := 6) hc37 rfl
          refine ur_inl rfl (rcv_of hc37) (Nat.le_of_ble_eq_true rfl) (Nat.le_of_ble_eq_true rfl) (sd_X7_nextToLookFor hO0 k22.1 k22.2 k26.1 k26.2 pre0 pre1 t23 pre2 pre3 t27 (fun w42 h45 hr43 hO45 hv45 hp44 => ?_))
          have hu45 := hv45
          obtain ⟨x46, rfl, f47⟩ := hr43
          show uRun _ (uCall Mt _) _ 57 (_, [(.inl x46)], _, _, _)
          refine ur_svIk [some (.inr (.inr (some 0))), some (.inl a1), some (.inl a2), some (.inl a3), some (.inr (.inr (some r20))), some (.inr (.inr (some r24))), some (.inl x46)] rfl rfl ?_
          refine ur_ldI rfl rfl ?_
          refine ur_push rfl ?_
          refine ur_if2 rfl (fun c48 => ?_) (fun c48 => ?_)
          · have t49 := ne_to c48
            refine ur_ldI rfl rfl ?_
            refine ur_if1 rfl (fun c50 => ?_) (fun c50 => ?_)
            · have t51 := ne_to c50
              refine ur_ldI rfl rfl ?_
              refine ur_push rfl ?_
              refine ur_divV rfl (by decide) (fun x52 e53 => ?_)
              have z54 := any_r x46
              have t55 := ti_rem e53 l_9 (by decide) (by omega)
              exact ur_ret rfl rfl (hQ _ _ ⟨_, rfl, ⟨fun q => absurd (by omega) q, fun _ => ⟨r20, r24, x46.toInt, t23.2, t27.2, f47.1, fun _ => by omega, fun _ => ⟨fun _ => by omega, fun _ => by omega⟩⟩⟩⟩ hO45 hu45 hp44)
            · have t56 := ne_no c50
              refine ur_ldI rfl rfl ?_
              refine ur_push rfl ?_
              refine ur_divV rfl (by decide) (fun x57 e58 => ?_)
              have z59 := any_r x46
              have t60 := ti_div e58 l_9 (by decide) (by omega)
              refine ur_go rfl ?_
              exact ur_ret rfl rfl (hQ _ _ ⟨_, rfl, ⟨fun q => absurd (by omega) q, fun _ => ⟨r20, r24, x46.toInt, t23.2, t27.2, f47.1, fun _ => by omega, fun _ => ⟨fun _ => by omega, fun _ => by omega⟩⟩⟩⟩ hO45 hu45 hp44)
          · have t61 := ne_no c48
            refine ur_push rfl ?_
            exact ur_ret rfl rfl (hQ _ _ ⟨_, rfl, ⟨fun q => absurd (by omega) q, fun _ => ⟨r20, r24, x46.toInt, t23.2, t27.2, f47.1, fun _ => by omega, fun _ => ⟨fun _ => by omega, fun _ => by omega⟩⟩⟩⟩ hO45 hu45 hp44)
        · have t62 := wi_noL c35 l_0 l_1
          refine ur_push rfl ?_
          exact ur_ret rfl rfl (hQ _ _ ⟨_, rfl, ⟨fun _ => by omega, fun q => by exfalso; omega⟩⟩ hO0 un.rf pre1)

set_option maxRecDepth 20000 in
set_option maxHeartbeats 4000000 in
theorem sd_X7_leastMove {d kc ks : Nat} {h0 : aH} {Q : Option aV → aH → Prop} {ls : List (List (Int × Int) × List (Int × Int))} {l1 : List (List (Int × Int) × List (Int × Int))} {c0 : Int} {j0 : Int} (hO0 : OK h0) {a1 : Nat} (g1 : 114 ≤ a1) (t1 : tg h0 a1 = (110, 13)) {a2 : Nat} (g2 : 114 ≤ a2) (t2 : tg h0 a2 = (102, 14)) (a3 : Int32) (b3 : -60 ≤ a3.toInt ∧ a3.toInt ≤ 60) (pre0 : SKc h0) (pre1 : SGc ls h0) (pre2 : (0 ≤ c0 ∧ c0 < fO h0 1 4) ∧ cz h0 c0 a2) (pre3 : txC h0 9 = cfl 0 ls) (pre4 : ∀ l ∈ ls, lnG l) (pre5 : txC h0 11 = cfl 0 l1) (pre6 : ∀ l ∈ l1, lnG l) (pre7 : (0 ≤ j0 ∧ j0 < fO h0 15 1) ∧ wz h0 j0 a1) (pre8 : RTW h0) (pre9 : LDw h0) (pre10 : fO h0 a2 8 ≤ a3.toInt ∧ a3.toInt ≤ fO h0 a2 9) (hQ : ∀ r h', (∃ x, r = some (.inl x)) → OK h' → un [222, 223, 21212] h0 h' → (SGc ls h') → Q r h') : uCall Mt (d + 7) 73 [(.inr (.inr (some 41))), (.inr (.inr (some a1))), (.inr (.inr (some a2))), (.inl a3)] h0 kc ks Q := by
  have l_m120 : ((-120) : Int32).toInt = -120 := by decide
  have l_m2 : ((-2) : Int32).toInt = -2 := by decide
  have l_m1 : ((-1) : Int32).toInt = -1 := by decide
  have l_0 : ((0) : Int32).toInt = 0 := by decide
  have l_1 : ((1) : Int32).toInt = 1 := by decide
  have l_2 : ((2) : Int32).toInt = 2 := by decide
  have l_20 : ((20) : Int32).toInt = 20 := by decide
  have l_120 : ((120) : Int32).toInt = 120 := by decide
  have l_999999 : ((999999) : Int32).toInt = 999999 := by decide
  refine uc_ink [some (.inr (.inr (some 41))), some (.inr (.inr (some a1))), some (.inr (.inr (some a2))), some (.inl a3), none, none, none, none, none, none, none] mt_73 (Nat.le_of_ble_eq_true rfl) rfl ?_
  refine ur_ldA rfl rfl ?_
  obtain ⟨f2, f3, hc1, k4⟩ := ok_41 hO0
  refine ur_get rfl hc1 rfl ?_
  refine ur_ldI rfl rfl ?_
  obtain ⟨f6, f7, hc5, k8⟩ := ok_1 hO0
  have t9 := fO_of (k := 2) hc5 rfl
  refine ur_inl rfl (rcv_of hc5) (Nat.le_of_ble_eq_true rfl) (Nat.le_of_ble_eq_true rfl) (sf_X6_wideOf hO0 _ (by show -60 ≤ a3.toInt ∧ a3.toInt ≤ 60; omega) (fun w10 hr11 => ?_))
  obtain ⟨x12, rfl, t13⟩ := hr11
  show uRun _ (uCall Mt _) _ 8 (_, [(.inl x12)], _, _, _)
  refine ur_svIk [some (.inr (.inr (some 41))), some (.inr (.inr (some a1))), some (.inr (.inr (some a2))), some (.inl a3), some (.inl x12), none, none, none, none, none, none] rfl rfl ?_
  refine ur_push rfl ?_
  refine ur_ldI rfl rfl ?_
  refine ur_push rfl ?_
  refine ur_divV rfl (by decide) (fun x14 e15 => ?_)
  have z16 := any_r x12
  have t17 := ti_div e15 l_20 (by decide) (by omega)
  refine ur_binV rfl (fun x18 e19 => ?_)
  have z20 := any_r x14
  have t21 := ti_add e19 (by omega) (by omega)
  refine ur_svIk [some (.inr (.inr (some 41))), some (.inr (.inr (some a1))), some (.inr (.inr (some a2))), some (.inl a3), some (.inl x12), some (.inl x18), none, none, none, none, none] rfl rfl ?_
  refine ur_ldI rfl rfl ?_
  refine ur_if1 rfl (fun c22 => ?_) (fun c22 => ?_)
  · have t23 := lt_to c22
    refine ur_ldI rfl rfl ?_
    refine ur_ldI rfl rfl ?_
    refine ur_divV rfl (nz_of (by omega)) (fun x24 e25 => ?_)
    have z26 := any_r x18
    have t27 := ti_divP e25 (by omega) (by omega)
    refine ur_ldI rfl rfl ?_
    refine ur_binV rfl (fun x28 e29 => ?_)
    have z30 := any_r x24
    have t31 := ti_mulB (b := 14400) (d := 721) e29 (by omega) (by omega) (by decide)
    refine ur_ldI rfl rfl ?_
    refine ur_binV rfl (fun x32 e33 => ?_)
    have z34 := any_r x28
    have t35 := ti_sub e33 (by omega) (by omega)
    refine ur_svIk [some (.inr (.inr (some 41))), some (.inr (.inr (some a1))), some (.inr (.inr (some a2))), some (.inl a3), some (.inl x12), some (.inl x18), some (.inl x32), none, none, none, none] rfl rfl ?_
    refine ur_ldI rfl rfl ?_
    refine ur_ldI rfl rfl ?_
    refine ur_binV rfl (fun x36 e37 => ?_)
    have z38 := any_r x32
    have t39 := ti_add e37 (by omega) (by omega)
    refine ur_svIk [some (.inr (.inr (some 41))), some (.inr (.inr (some a1))), some (.inr (.inr (some a2))), some (.inl a3), some (.inl x12), some (.inl x18), some (.inl x32), some (.inl x36), none, none, none] rfl rfl ?_
    refine ur_push rfl ?_
    refine ur_svIk [some (.inr (.inr (some 41))), some (.inr (.inr (some a1))), some (.inr (.inr (some a2))), some (.inl a3), some (.inl x12), some (.inl x18), some (.inl x32), some (.inl x36), some (.inl 0), none, none] rfl rfl ?_
    have L45 : ∀ (m46 : Nat) (x40 : Int32) (x41 : Int32) (x42 : Int32) (u43 : Option aV) (u44 : Option aV) (h48 : aH) , OK h48 → un [222, 223, 21212] h0 h48 → ((0 ≤ x42.toInt ∧ x42.toInt ≤ 2147483647)) → (SGc ls h48) → ((2147483648 - x42.toInt).toNat) < m46 → uRun oX7_leastMove (uCall Mt (d + 6)) Q 50 ([some (.inr (.inr (some 41))), some (.inr (.inr (some a1))), some (.inr (.inr (some a2))), some (.inl a3), some (.inl x12), some (.inl x18), some (.inl x40), some (.inl x41), some (.inl x42), u43, u44], [], h48, kc, ks) := by
      intro m46
      induction m46 with
      | zero => intro x40 x41 x42 u43 u44 h48 hO48 hu48 iv50 px49 mm51; omega
      | succ m46 ih47 =>
        intro x40 x41 x42 u43 u44 h48 hO48 hu48 iv50 px49 mm51
        refine ur_ldI rfl rfl ?_
        refine ur_push rfl ?_
        refine ur_ldI rfl rfl ?_
        refine ur_binV rfl (fun x52 e53 => ?_)
        have t54 := ti_mulR e53 l_2 (by omega) (by omega)
        refine ur_ldI rfl rfl ?_
        refine ur_divV rfl (nz_of (by omega)) (fun x55 e56 => ?_)
        have z57 := any_r x52
        have t58 := ti_divP e56 (by omega) (by omega)
        have z59 := any_r x42
        have z60 := any_r x55
        refine ur_if2 rfl (fun c61 => ?_) (fun c61 => ?_)
        · have t62 := lt_to c61
          refine ur_push rfl ?_
          exact ur_ret rfl rfl (hQ _ _ ⟨_, rfl⟩ hO48 hu48 px49)
        · have t63 := lt_no c61
          refine ur_ldI rfl rfl ?_
          refine ur_ldI rfl rfl ?_
          have z64 := any_r x41
          refine ur_if2 rfl (fun c65 => ?_) (fun c65 => ?_)
          · have t66 := lt_to c65
            refine ur_push rfl ?_
            refine ur_go rfl ?_
            refine ur_svIk [some (.inr (.inr (some 41))), some (.inr (.inr (some a1))), some (.inr (.inr (some a2))), some (.inl a3), some (.inl x12), some (.inl x18), some (.inl x40), some (.inl x41), some (.inl x42), some (.inl 1), u44] rfl rfl ?_
            refine ur_ldI rfl rfl ?_
            refine ur_if1f rfl (by decide) ?_
            refine ur_ldI rfl rfl ?_
            refine ur_go rfl ?_
            refine ur_svIk [some (.inr (.inr (some 41))), some (.inr (.inr (some a1))), some (.inr (.inr (some a2))), some (.inl a3), some (.inl x12), some (.inl x18), some (.inl x40), some (.inl x41), some (.inl x42), some (.inl 1), some (.inl x40)] rfl rfl ?_
            refine ur_ldA rfl rfl ?_
            refine ur_ldI rfl rfl ?_
            obtain ⟨g87, f68, f69, f70, f71, f72, f73, f74, f75, f76, f77, q78, q79, o80, q81, hc67, k82, k83, k84, k85, k86⟩ := hO48.comet (hu48.tm t2 (by decide))
            refine ur_inl rfl (rcv_of hc67) (Nat.le_of_ble_eq_true rfl) (Nat.le_of_ble_eq_true rfl) (sd_X2_passOf hO48 g87 (hu48.tm t2 (by decide)) _ (by show -60 ≤ a3.toInt ∧ a3.toInt ≤ 60; omega) (fun w88 hr89 => ?_))
            obtain ⟨x90, rfl, f91⟩ := hr89
            show uRun _ (uCall Mt _) _ 111 (_, [(.inl x90)], _, _, _)
            have tt92 : x90.toInt = cf h0 a2 a3.toInt := by rw [← cf_un hO0 hu48 g2 t2 (by decide)]; unfold cf; rw [fO_eA (fC_un hO0 hu48 g2 t2 (k := 8) (by decide) (by decide)), fO_eA (fC_un hO0 hu48 g2 t2 (k := 9) (by decide) (by decide)), if_pos (by omega)]; exact f91
            have tt93 := pre0.rg pre2.1 pre2.2 (k := a3.toInt) (by omega)
            refine ur_ldI rfl rfl ?_
            refine ur_binV rfl (fun x94 e95 => ?_)
            have z96 := any_r x90
            have z97 := any_r x40
            have t98 := ti_addw e95
            refine ur_callv rfl rfl (Nat.le_of_ble_eq_true rfl) (Nat.le_of_ble_eq_true rfl) rfl (sp_isDay _ _) ?_
            refine ur_eqB rfl (fun c101 => ?_) (fun c101 => ?_)
            · have t102 := wi_noL c101 l_0 l_999999
              refine ur_ldI rfl rfl ?_
              refine ur_if1f rfl (by decide) ?_
              refine ur_ldI rfl rfl ?_
              refine ur_ldI rfl rfl ?_
              refine ur_binV rfl (fun x103 e104 => ?_)
              refine ur_svIk [some (.inr (.inr (some 41))), some (.inr (.inr (some a1))), some (.inr (.inr (some a2))), some (.inl a3), some (.inl x12), some (.inl x18), some (.inl x103), some (.inl x41), some (.inl x42), some (.inl 1), some (.inl x40)] rfl rfl ?_
              refine ur_go rfl ?_
              refine ur_incV (fun z => [some (.inr (.inr (some 41))), some (.inr (.inr (some a1))), some (.inr (.inr (some a2))), some (.inl a3), some (.inl x12), some (.inl x18), some (.inl x103), some (.inl x41), some (.inl z), some (.inl 1), some (.inl x40)]) rfl rfl (fun _ => rfl) (fun x105 e106 => ?_)
              have t107 := ti_add e106 (by omega) (by omega)
              refine ur_go rfl ?_
              have z108 := any_r x105
              exact ih47 x103 x41 x105 _ _ _ hO48 hu48 (by omega) px49 (by omega)
            · have t109 := wi_toL c101 l_0 l_999999
              refine ur_ldA rfl rfl ?_
              refine ur_get rfl (hu48.ko (n := 15) hc1 rfl (wid_f (by decide)) (by decide)) rfl ?_
              refine ur_ldA rfl rfl ?_
              refine ur_ldA rfl rfl ?_
              refine ur_ldI rfl rfl ?_
              refine ur_ldI rfl rfl ?_
              refine ur_push rfl ?_
              refine ur_push rfl ?_
              obtain ⟨f111, hc110, k112⟩ := ok_8 hO48
              refine ur_inl rfl (rcv_of hc110) (Nat.le_of_ble_eq_true rfl) (Nat.le_of_ble_eq_true rfl) (sd_X5_fitDay hO48 g1 (hu48.tm t1 (by decide)) g87 (hu48.tm t2 (by decide)) _ (by show -60 ≤ a3.toInt ∧ a3.toInt ≤ 60; omega) _ (by show -1000000 ≤ x40.toInt ∧ x40.toInt ≤ 1000000; omega) _ (by show -120 ≤ ((-120) : Int32).toInt ∧ ((-120) : Int32).toInt ≤ 120; omega) _ (by show -120 ≤ (120 : Int32).toInt ∧ (120 : Int32).toInt ≤ 120; omega) (pre0.un hO0 hO48 hu48 (by decide)) px49 (cz_un hO0 hO48 hu48 pre2 (by decide) (by decide)) ((txC_un hO0 hO48 hu48 (by decide) 9 (by decide)).trans pre3) pre4 ((txC_un hO0 hO48 hu48 (by decide) 11 (by decide)).trans pre5) pre6 (wz_un hO0 hO48 hu48 pre7 (by decide) (by decide)) (pre8.un hO0 hO48 hu48 (by decide)) (pre9.un hO0 hO48 hu48 (by decide)) (by rw [fO_eA (fC_un hO0 hu48 g2 t2 (k := 8) (by decide) (by decide)), fO_eA (fC_un hO0 hu48 g2 t2 (k := 9) (by decide) (by decide))]; exact pre10) (fun w113 h116 hr114 hO116 hv116 hp115 => ?_))
              have hu116 := hv116
              obtain ⟨x117, rfl, f118⟩ := hr114
              show uRun _ (uCall Mt _) _ 136 (_, [(.inl x117)], _, _, _)
              refine ur_push rfl ?_
              refine ur_if2 rfl (fun c119 => ?_) (fun c119 => ?_)
              · have t120 := eq_to c119
                refine ur_ldI rfl rfl ?_
                refine ur_if1f rfl (by decide) ?_
                refine ur_ldI rfl rfl ?_
                refine ur_ldI rfl rfl ?_
                refine ur_binV rfl (fun x121 e122 => ?_)
                refine ur_svIk [some (.inr (.inr (some 41))), some (.inr (.inr (some a1))), some (.inr (.inr (some a2))), some (.inl a3), some (.inl x12), some (.inl x18), some (.inl x121), some (.inl x41), some (.inl x42), some (.inl 1), some (.inl x40)] rfl rfl ?_
                refine ur_go rfl ?_
                refine ur_incV (fun z => [some (.inr (.inr (some 41))), some (.inr (.inr (some a1))), some (.inr (.inr (some a2))), some (.inl a3), some (.inl x12), some (.inl x18), some (.inl x121), some (.inl x41), some (.inl z), some (.inl 1), some (.inl x40)]) rfl rfl (fun _ => rfl) (fun x123 e124 => ?_)
                have t125 := ti_add e124 (by omega) (by omega)
                refine ur_go rfl ?_
                have z126 := any_r x123
                exact ih47 x121 x41 x123 _ _ _ hO116 (hu48.tr hu116) (by omega) hp115 (by omega)
              · have t127 := eq_no c119
                refine ur_ldI rfl rfl ?_
                exact ur_ret rfl rfl (hQ _ _ ⟨_, rfl⟩ hO116 (hu48.tr hu116) hp115)
          · have t128 := lt_no c65
            refine ur_ldI rfl rfl ?_
            refine ur_ldI rfl rfl ?_
            refine ur_unV rfl (fun x129 e130 => ?_)
            have t131 := ti_neg e130 (by omega)
            have z132 := any_r x40
            have z133 := any_r x129
            refine ur_if2 rfl (fun c134 => ?_) (fun c134 => ?_)
            · have t135 := lt_to c134
              refine ur_push rfl ?_
              refine ur_svIk [some (.inr (.inr (some 41))), some (.inr (.inr (some a1))), some (.inr (.inr (some a2))), some (.inl a3), some (.inl x12), some (.inl x18), some (.inl x40), some (.inl x41), some (.inl x42), some (.inl 0), u44] rfl rfl ?_
              refine ur_ldI rfl rfl ?_
              refine ur_if1t rfl (by decide) ?_
              refine ur_ldI rfl rfl ?_
              refine ur_svIk [some (.inr (.inr (some 41))), some (.inr (.inr (some a1))), some (.inr (.inr (some a2))), some (.inl a3), some (.inl x12), some (.inl x18), some (.inl x40), some (.inl x41), some (.inl x42), some (.inl 0), some (.inl x41)] rfl rfl ?_
              refine ur_ldA rfl rfl ?_
              refine ur_ldI rfl rfl ?_
              obtain ⟨g156, f137, f138, f139, f140, f141, f142, f143, f144, f145, f146, q147, q148, o149, q150, hc136, k151, k152, k153, k154, k155⟩ := hO48.comet (hu48.tm t2 (by decide))
              refine ur_inl rfl (rcv_of hc136) (Nat.le_of_ble_eq_true rfl) (Nat.le_of_ble_eq_true rfl) (sd_X2_passOf hO48 g156 (hu48.tm t2 (by decide)) _ (by show -60 ≤ a3.toInt ∧ a3.toInt ≤ 60; omega) (fun w157 hr158 => ?_))
              obtain ⟨x159, rfl, f160⟩ := hr158
              show uRun _ (uCall Mt _) _ 111 (_, [(.inl x159)], _, _, _)
              have tt161 : x159.toInt = cf h0 a2 a3.toInt := by rw [← cf_un hO0 hu48 g2 t2 (by decide)]; unfold cf; rw [fO_eA (fC_un hO0 hu48 g2 t2 (k := 8) (by decide) (by decide)), fO_eA (fC_un hO0 hu48 g2 t2 (k := 9) (by decide) (by decide)), if_pos (by omega)]; exact f160
              have tt162 := pre0.rg pre2.1 pre2.2 (k := a3.toInt) (by omega)
              refine ur_ldI rfl rfl ?_
              refine ur_binV rfl (fun x163 e164 => ?_)
              have z165 := any_r x159
              have t166 := ti_add e164 (by omega) (by omega)
              refine ur_callv rfl rfl (Nat.le_of_ble_eq_true rfl) (Nat.le_of_ble_eq_true rfl) rfl (sp_isDay _ _) ?_
              refine ur_eqB rfl (fun c169 => ?_) (fun c169 => ?_)
              · have t170 := wi_noL c169 l_0 l_999999
                refine ur_ldI rfl rfl ?_
                refine ur_if1t rfl (by decide) ?_
                refine ur_ldI rfl rfl ?_
                refine ur_ldI rfl rfl ?_
                refine ur_binV rfl (fun x171 e172 => ?_)
                have t173 := ti_add e172 (by omega) (by omega)
                refine ur_svIk [some (.inr (.inr (some 41))), some (.inr (.inr (some a1))), some (.inr (.inr (some a2))), some (.inl a3), some (.inl x12), some (.inl x18), some (.inl x40), some (.inl x171), some (.inl x42), some (.inl 0), some (.inl x41)] rfl rfl ?_
                refine ur_incV (fun z => [some (.inr (.inr (some 41))), some (.inr (.inr (some a1))), some (.inr (.inr (some a2))), some (.inl a3), some (.inl x12), some (.inl x18), some (.inl x40), some (.inl x171), some (.inl z), some (.inl 0), some (.inl x41)]) rfl rfl (fun _ => rfl) (fun x174 e175 => ?_)
                have t176 := ti_add e175 (by omega) (by omega)
                refine ur_go rfl ?_
                have z177 := any_r x174
                exact ih47 x40 x171 x174 _ _ _ hO48 hu48 (by omega) px49 (by omega)
              · have t178 := wi_toL c169 l_0 l_999999
                refine ur_ldA rfl rfl ?_
                refine ur_get rfl (hu48.ko (n := 15) hc1 rfl (wid_f (by decide)) (by decide)) rfl ?_
                refine ur_ldA rfl rfl ?_
                refine ur_ldA rfl rfl ?_
                refine ur_ldI rfl rfl ?_
                refine ur_ldI rfl rfl ?_
                refine ur_push rfl ?_
                refine ur_push rfl ?_
                obtain ⟨f180, hc179, k181⟩ := ok_8 hO48
                refine ur_inl rfl (rcv_of hc179) (Nat.le_of_ble_eq_true rfl) (Nat.le_of_ble_eq_true rfl) (sd_X5_fitDay hO48 g1 (hu48.tm t1 (by decide)) g156 (hu48.tm t2 (by decide)) _ (by show -60 ≤ a3.toInt ∧ a3.toInt ≤ 60; omega) _ (by show -1000000 ≤ x41.toInt ∧ x41.toInt ≤ 1000000; omega) _ (by show -120 ≤ ((-120) : Int32).toInt ∧ ((-120) : Int32).toInt ≤ 120; omega) _ (by show -120 ≤ (120 : Int32).toInt ∧ (120 : Int32).toInt ≤ 120; omega) (pre0.un hO0 hO48 hu48 (by decide)) px49 (cz_un hO0 hO48 hu48 pre2 (by decide) (by decide)) ((txC_un hO0 hO48 hu48 (by decide) 9 (by decide)).trans pre3) pre4 ((txC_un hO0 hO48 hu48 (by decide) 11 (by decide)).trans pre5) pre6 (wz_un hO0 hO48 hu48 pre7 (by decide) (by decide)) (pre8.un hO0 hO48 hu48 (by decide)) (pre9.un hO0 hO48 hu48 (by decide)) (by rw [fO_eA (fC_un hO0 hu48 g2 t2 (k := 8) (by decide) (by decide)), fO_eA (fC_un hO0 hu48 g2 t2 (k := 9) (by decide) (by decide))]; exact pre10) (fun w182 h185 hr183 hO185 hv185 hp184 => ?_))
                have hu185 := hv185
                obtain ⟨x186, rfl, f187⟩ := hr183
                show uRun _ (uCall Mt _) _ 136 (_, [(.inl x186)], _, _, _)
                refine ur_push rfl ?_
                refine ur_if2 rfl (fun c188 => ?_) (fun c188 => ?_)
                · have t189 := eq_to c188
                  refine ur_ldI rfl rfl ?_
                  refine ur_if1t rfl (by decide) ?_
                  refine ur_ldI rfl rfl ?_
                  refine ur_ldI rfl rfl ?_
                  refine ur_binV rfl (fun x190 e191 => ?_)
                  have t192 := ti_add e191 (by omega) (by omega)
                  refine ur_svIk [some (.inr (.inr (some 41))), some (.inr (.inr (some a1))), some (.inr (.inr (some a2))), some (.inl a3), some (.inl x12), some (.inl x18), some (.inl x40), some (.inl x190), some (.inl x42), some (.inl 0), some (.inl x41)] rfl rfl ?_
                  refine ur_incV (fun z => [some (.inr (.inr (some 41))), some (.inr (.inr (some a1))), some (.inr (.inr (some a2))), some (.inl a3), some (.inl x12), some (.inl x18), some (.inl x40), some (.inl x190), some (.inl z), some (.inl 0), some (.inl x41)]) rfl rfl (fun _ => rfl) (fun x193 e194 => ?_)
                  have t195 := ti_add e194 (by omega) (by omega)
                  refine ur_go rfl ?_
                  have z196 := any_r x193
                  exact ih47 x40 x190 x193 _ _ _ hO185 (hu48.tr hu185) (by omega) hp184 (by omega)
                · have t197 := eq_no c188
                  refine ur_ldI rfl rfl ?_
                  exact ur_ret rfl rfl (hQ _ _ ⟨_, rfl⟩ hO185 (hu48.tr hu185) hp184)
            · have t198 := lt_no c134
              refine ur_ldI rfl rfl ?_
              refine ur_unV rfl (fun x199 e200 => ?_)
              have t201 := ti_neg e200 (by omega)
              refine ur_ldI rfl rfl ?_
              have z202 := any_r x199
              refine ur_if2 rfl (fun c203 => ?_) (fun c203 => ?_)
              · have t204 := lt_to c203
                refine ur_push rfl ?_
                refine ur_svIk [some (.inr (.inr (some 41))), some (.inr (.inr (some a1))), some (.inr (.inr (some a2))), some (.inl a3), some (.inl x12), some (.inl x18), some (.inl x40), some (.inl x41), some (.inl x42), some (.inl 0), u44] rfl rfl ?_
                refine ur_ldI rfl rfl ?_
                refine ur_if1t rfl (by decide) ?_
                refine ur_ldI rfl rfl ?_
                refine ur_svIk [some (.inr (.inr (some 41))), some (.inr (.inr (some a1))), some (.inr (.inr (some a2))), some (.inl a3), some (.inl x12), some (.inl x18), some (.inl x40), some (.inl x41), some (.inl x42), some (.inl 0), some (.inl x41)] rfl rfl ?_
                refine ur_ldA rfl rfl ?_
                refine ur_ldI rfl rfl ?_
                obtain ⟨g225, f206, f207, f208, f209, f210, f211, f212, f213, f214, f215, q216, q217, o218, q219, hc205, k220, k221, k222, k223, k224⟩ := hO48.comet (hu48.tm t2 (by decide))
                refine ur_inl rfl (rcv_of hc205) (Nat.le_of_ble_eq_true rfl) (Nat.le_of_ble_eq_true rfl) (sd_X2_passOf hO48 g225 (hu48.tm t2 (by decide)) _ (by show -60 ≤ a3.toInt ∧ a3.toInt ≤ 60; omega) (fun w226 hr227 => ?_))
                obtain ⟨x228, rfl, f229⟩ := hr227
                show uRun _ (uCall Mt _) _ 111 (_, [(.inl x228)], _, _, _)
                have tt230 : x228.toInt = cf h0 a2 a3.toInt := by rw [← cf_un hO0 hu48 g2 t2 (by decide)]; unfold cf; rw [fO_eA (fC_un hO0 hu48 g2 t2 (k := 8) (by decide) (by decide)), fO_eA (fC_un hO0 hu48 g2 t2 (k := 9) (by decide) (by decide)), if_pos (by omega)]; exact f229
                have tt231 := pre0.rg pre2.1 pre2.2 (k := a3.toInt) (by omega)
                refine ur_ldI rfl rfl ?_
                refine ur_binV rfl (fun x232 e233 => ?_)
                have z234 := any_r x228
                have t235 := ti_add e233 (by omega) (by omega)
                refine ur_callv rfl rfl (Nat.le_of_ble_eq_true rfl) (Nat.le_of_ble_eq_true rfl) rfl (sp_isDay _ _) ?_
                refine ur_eqB rfl (fun c238 => ?_) (fun c238 => ?_)
                · have t239 := wi_noL c238 l_0 l_999999
                  refine ur_ldI rfl rfl ?_
                  refine ur_if1t rfl (by decide) ?_
                  refine ur_ldI rfl rfl ?_
                  refine ur_ldI rfl rfl ?_
                  refine ur_binV rfl (fun x240 e241 => ?_)
                  have t242 := ti_add e241 (by omega) (by omega)
                  refine ur_svIk [some (.inr (.inr (some 41))), some (.inr (.inr (some a1))), some (.inr (.inr (some a2))), some (.inl a3), some (.inl x12), some (.inl x18), some (.inl x40), some (.inl x240), some (.inl x42), some (.inl 0), some (.inl x41)] rfl rfl ?_
                  refine ur_incV (fun z => [some (.inr (.inr (some 41))), some (.inr (.inr (some a1))), some (.inr (.inr (some a2))), some (.inl a3), some (.inl x12), some (.inl x18), some (.inl x40), some (.inl x240), some (.inl z), some (.inl 0), some (.inl x41)]) rfl rfl (fun _ => rfl) (fun x243 e244 => ?_)
                  have t245 := ti_add e244 (by omega) (by omega)
                  refine ur_go rfl ?_
                  have z246 := any_r x243
                  exact ih47 x40 x240 x243 _ _ _ hO48 hu48 (by omega) px49 (by omega)
                · have t247 := wi_toL c238 l_0 l_999999
                  refine ur_ldA rfl rfl ?_
                  refine ur_get rfl (hu48.ko (n := 15) hc1 rfl (wid_f (by decide)) (by decide)) rfl ?_
                  refine ur_ldA rfl rfl ?_
                  refine ur_ldA rfl rfl ?_
                  refine ur_ldI rfl rfl ?_
                  refine ur_ldI rfl rfl ?_
                  refine ur_push rfl ?_
                  refine ur_push rfl ?_
                  obtain ⟨f249, hc248, k250⟩ := ok_8 hO48
                  refine ur_inl rfl (rcv_of hc248) (Nat.le_of_ble_eq_true rfl) (Nat.le_of_ble_eq_true rfl) (sd_X5_fitDay hO48 g1 (hu48.tm t1 (by decide)) g225 (hu48.tm t2 (by decide)) _ (by show -60 ≤ a3.toInt ∧ a3.toInt ≤ 60; omega) _ (by show -1000000 ≤ x41.toInt ∧ x41.toInt ≤ 1000000; omega) _ (by show -120 ≤ ((-120) : Int32).toInt ∧ ((-120) : Int32).toInt ≤ 120; omega) _ (by show -120 ≤ (120 : Int32).toInt ∧ (120 : Int32).toInt ≤ 120; omega) (pre0.un hO0 hO48 hu48 (by decide)) px49 (cz_un hO0 hO48 hu48 pre2 (by decide) (by decide)) ((txC_un hO0 hO48 hu48 (by decide) 9 (by decide)).trans pre3) pre4 ((txC_un hO0 hO48 hu48 (by decide) 11 (by decide)).trans pre5) pre6 (wz_un hO0 hO48 hu48 pre7 (by decide) (by decide)) (pre8.un hO0 hO48 hu48 (by decide)) (pre9.un hO0 hO48 hu48 (by decide)) (by rw [fO_eA (fC_un hO0 hu48 g2 t2 (k := 8) (by decide) (by decide)), fO_eA (fC_un hO0 hu48 g2 t2 (k := 9) (by decide) (by decide))]; exact pre10) (fun w251 h254 hr252 hO254 hv254 hp253 => ?_))
                  have hu254 := hv254
                  obtain ⟨x255, rfl, f256⟩ := hr252
                  show uRun _ (uCall Mt _) _ 136 (_, [(.inl x255)], _, _, _)
                  refine ur_push rfl ?_
                  refine ur_if2 rfl (fun c257 => ?_) (fun c257 => ?_)
                  · have t258 := eq_to c257
                    refine ur_ldI rfl rfl ?_
                    refine ur_if1t rfl (by decide) ?_
                    refine ur_ldI rfl rfl ?_
                    refine ur_ldI rfl rfl ?_
                    refine ur_binV rfl (fun x259 e260 => ?_)
                    have t261 := ti_add e260 (by omega) (by omega)
                    refine ur_svIk [some (.inr (.inr (some 41))), some (.inr (.inr (some a1))), some (.inr (.inr (some a2))), some (.inl a3), some (.inl x12), some (.inl x18), some (.inl x40), some (.inl x259), some (.inl x42), some (.inl 0), some (.inl x41)] rfl rfl ?_
                    refine ur_incV (fun z => [some (.inr (.inr (some 41))), some (.inr (.inr (some a1))), some (.inr (.inr (some a2))), some (.inl a3), some (.inl x12), some (.inl x18), some (.inl x40), some (.inl x259), some (.inl z), some (.inl 0), some (.inl x41)]) rfl rfl (fun _ => rfl) (fun x262 e263 => ?_)
                    have t264 := ti_add e263 (by omega) (by omega)
                    refine ur_go rfl ?_
                    have z265 := any_r x262
                    exact ih47 x40 x259 x262 _ _ _ hO254 (hu48.tr hu254) (by omega) hp253 (by omega)
                  · have t266 := eq_no c257
                    refine ur_ldI rfl rfl ?_
                    exact ur_ret rfl rfl (hQ _ _ ⟨_, rfl⟩ hO254 (hu48.tr hu254) hp253)
              · have t267 := lt_no c203
                refine ur_push rfl ?_
                refine ur_go rfl ?_
                refine ur_svIk [some (.inr (.inr (some 41))), some (.inr (.inr (some a1))), some (.inr (.inr (some a2))), some (.inl a3), some (.inl x12), some (.inl x18), some (.inl x40), some (.inl x41), some (.inl x42), some (.inl 1), u44] rfl rfl ?_
                refine ur_ldI rfl rfl ?_
                refine ur_if1f rfl (by decide) ?_
                refine ur_ldI rfl rfl ?_
                refine ur_go rfl ?_
                refine ur_svIk [some (.inr (.inr (some 41))), some (.inr (.inr (some a1))), some (.inr (.inr (some a2))), some (.inl a3), some (.inl x12), some (.inl x18), some (.inl x40), some (.inl x41), some (.inl x42), some (.inl 1), some (.inl x40)] rfl rfl ?_
                refine ur_ldA rfl rfl ?_
                refine ur_ldI rfl rfl ?_
                obtain ⟨g288, f269, f270, f271, f272, f273, f274, f275, f276, f277, f278, q279, q280, o281, q282, hc268, k283, k284, k285, k286, k287⟩ := hO48.comet (hu48.tm t2 (by decide))
                refine ur_inl rfl (rcv_of hc268) (Nat.le_of_ble_eq_true rfl) (Nat.le_of_ble_eq_true rfl) (sd_X2_passOf hO48 g288 (hu48.tm t2 (by decide)) _ (by show -60 ≤ a3.toInt ∧ a3.toInt ≤ 60; omega) (fun w289 hr290 => ?_))
                obtain ⟨x291, rfl, f292⟩ := hr290
                show uRun _ (uCall Mt _) _ 111 (_, [(.inl x291)], _, _, _)
                have tt293 : x291.toInt = cf h0 a2 a3.toInt := by rw [← cf_un hO0 hu48 g2 t2 (by decide)]; unfold cf; rw [fO_eA (fC_un hO0 hu48 g2 t2 (k := 8) (by decide) (by decide)), fO_eA (fC_un hO0 hu48 g2 t2 (k := 9) (by decide) (by decide)), if_pos (by omega)]; exact f292
                have tt294 := pre0.rg pre2.1 pre2.2 (k := a3.toInt) (by omega)
                refine ur_ldI rfl rfl ?_
                refine ur_binV rfl (fun x295 e296 => ?_)
                have z297 := any_r x291
                have t298 := ti_addw e296
                refine ur_callv rfl rfl (Nat.le_of_ble_eq_true rfl) (Nat.le_of_ble_eq_true rfl) rfl (sp_isDay _ _) ?_
                refine ur_eqB rfl (fun c301 => ?_) (fun c301 => ?_)
                · have t302 := wi_noL c301 l_0 l_999999
                  refine ur_ldI rfl rfl ?_
                  refine ur_if1f rfl (by decide) ?_
                  refine ur_ldI rfl rfl ?_
                  refine ur_ldI rfl rfl ?_
                  refine ur_binV rfl (fun x303 e304 => ?_)
                  have t305 := ti_sub e304 (by omega) (by omega)
                  refine ur_svIk [some (.inr (.inr (some 41))), some (.inr (.inr (some a1))), some (.inr (.inr (some a2))), some (.inl a3), some (.inl x12), some (.inl x18), some (.inl x303), some (.inl x41), some (.inl x42), some (.inl 1), some (.inl x40)] rfl rfl ?_
                  refine ur_go rfl ?_
                  refine ur_incV (fun z => [some (.inr (.inr (some 41))), some (.inr (.inr (some a1))), some (.inr (.inr (some a2))), some (.inl a3), some (.inl x12), some (.inl x18), some (.inl x303), some (.inl x41), some (.inl z), some (.inl 1), some (.inl x40)]) rfl rfl (fun _ => rfl) (fun x306 e307 => ?_)
                  have t308 := ti_add e307 (by omega) (by omega)
                  refine ur_go rfl ?_
                  have z309 := any_r x306
                  exact ih47 x303 x41 x306 _ _ _ hO48 hu48 (by omega) px49 (by omega)
                · have t310 := wi_toL c301 l_0 l_999999
                  refine ur_ldA rfl rfl ?_
                  refine ur_get rfl (hu48.ko (n := 15) hc1 rfl (wid_f (by decide)) (by decide)) rfl ?_
                  refine ur_ldA rfl rfl ?_
                  refine ur_ldA rfl rfl ?_
                  refine ur_ldI rfl rfl ?_
                  refine ur_ldI rfl rfl ?_
                  refine ur_push rfl ?_
                  refine ur_push rfl ?_
                  obtain ⟨f312, hc311, k313⟩ := ok_8 hO48
                  refine ur_inl rfl (rcv_of hc311) (Nat.le_of_ble_eq_true rfl) (Nat.le_of_ble_eq_true rfl) (sd_X5_fitDay hO48 g1 (hu48.tm t1 (by decide)) g288 (hu48.tm t2 (by decide)) _ (by show -60 ≤ a3.toInt ∧ a3.toInt ≤ 60; omega) _ (by show -1000000 ≤ x40.toInt ∧ x40.toInt ≤ 1000000; omega) _ (by show -120 ≤ ((-120) : Int32).toInt ∧ ((-120) : Int32).toInt ≤ 120; omega) _ (by show -120 ≤ (120 : Int32).toInt ∧ (120 : Int32).toInt ≤ 120; omega) (pre0.un hO0 hO48 hu48 (by decide)) px49 (cz_un hO0 hO48 hu48 pre2 (by decide) (by decide)) ((txC_un hO0 hO48 hu48 (by decide) 9 (by decide)).trans pre3) pre4 ((txC_un hO0 hO48 hu48 (by decide) 11 (by decide)).trans pre5) pre6 (wz_un hO0 hO48 hu48 pre7 (by decide) (by decide)) (pre8.un hO0 hO48 hu48 (by decide)) (pre9.un hO0 hO48 hu48 (by decide)) (by rw [fO_eA (fC_un hO0 hu48 g2 t2 (k := 8) (by decide) (by decide)), fO_eA (fC_un hO0 hu48 g2 t2 (k := 9) (by decide) (by decide))]; exact pre10) (fun w314 h317 hr315 hO317 hv317 hp316 => ?_))
                  have hu317 := hv317
                  obtain ⟨x318, rfl, f319⟩ := hr315
                  show uRun _ (uCall Mt _) _ 136 (_, [(.inl x318)], _, _, _)
                  refine ur_push rfl ?_
                  refine ur_if2 rfl (fun c320 => ?_) (fun c320 => ?_)
                  · have t321 := eq_to c320
                    refine ur_ldI rfl rfl ?_
                    refine ur_if1f rfl (by decide) ?_
                    refine ur_ldI rfl rfl ?_
                    refine ur_ldI rfl rfl ?_
                    refine ur_binV rfl (fun x322 e323 => ?_)
                    have t324 := ti_sub e323 (by omega) (by omega)
                    refine ur_svIk [some (.inr (.inr (some 41))), some (.inr (.inr (some a1))), some (.inr (.inr (some a2))), some (.inl a3), some (.inl x12), some (.inl x18), some (.inl x322), some (.inl x41), some (.inl x42), some (.inl 1), some (.inl x40)] rfl rfl ?_
                    refine ur_go rfl ?_
                    refine ur_incV (fun z => [some (.inr (.inr (some 41))), some (.inr (.inr (some a1))), some (.inr (.inr (some a2))), some (.inl a3), some (.inl x12), some (.inl x18), some (.inl x322), some (.inl x41), some (.inl z), some (.inl 1), some (.inl x40)]) rfl rfl (fun _ => rfl) (fun x325 e326 => ?_)
                    have t327 := ti_add e326 (by omega) (by omega)
                    refine ur_go rfl ?_
                    have z328 := any_r x325
                    exact ih47 x322 x41 x325 _ _ _ hO317 (hu48.tr hu317) (by omega) hp316 (by omega)
                  · have t329 := eq_no c320
                    refine ur_ldI rfl rfl ?_
                    exact ur_ret rfl rfl (hQ _ _ ⟨_, rfl⟩ hO317 (hu48.tr hu317) hp316)
    exact L45 _ x32 x36 0 (none) (none) _ hO0 un.rf (by omega) pre1 (Nat.lt_succ_self _)
  · have t330 := lt_no c22
    exfalso
    omega

set_option maxRecDepth 20000 in
set_option maxHeartbeats 4000000 in
theorem sd_X11_perhaps {d kc ks : Nat} {h0 : aH} {Q : Option aV → aH → Prop} {ls : List (List (Int × Int) × List (Int × Int))} {l1 : List (List (Int × Int) × List (Int × Int))} (hO0 : OK h0) (a1 : Int32) (a2 : Int32) (a3 : Int32) (pre0 : NA h0) (pre1 : SGc ls h0) (pre2 : SKc h0) (pre3 : txC h0 9 = cfl 0 ls) (pre4 : ∀ l ∈ ls, lnG l) (pre5 : txC h0 11 = cfl 0 l1) (pre6 : ∀ l ∈ l1, lnG l) (pre7 : RTW h0) (pre8 : LDw h0) (hQ : ∀ r h', (∃ x, r = some (.inl x)) → OK h' → un [222, 223, 21212] h0 h' → (SGc ls h') → Q r h') : uCall Mt (d + 8) 140 [(.inr (.inr (some 0))), (.inl a1), (.inl a2), (.inl a3)] h0 kc ks Q := by
  have l_m2000000000 : ((-2000000000) : Int32).toInt = -2000000000 := by decide
  have l_m60 : ((-60) : Int32).toInt = -60 := by decide
  have l_m2 : ((-2) : Int32).toInt = -2 := by decide
  have l_60 : ((60) : Int32).toInt = 60 := by decide
  refine uc_ink [some (.inr (.inr (some 0))), some (.inl a1), some (.inl a2), some (.inl a3), none, none] mt_140 (Nat.le_of_ble_eq_true rfl) rfl ?_
  obtain ⟨f2, f3, hc1, k4⟩ := ok_1 hO0
  have t5 := fO_of (k := 4) hc1 rfl
  obtain ⟨f7, f8, f9, f10, hc6, k11⟩ := ok_15 hO0
  have t12 := fO_of (k := 1) hc6 rfl
  refine ur_ldA rfl rfl ?_
  obtain ⟨hc13, k14⟩ := ok_0 hO0
  refine ur_get rfl hc13 rfl ?_
  refine ur_ldI rfl rfl ?_
  refine ur_inl rfl (rcv_of hc6) (Nat.le_of_ble_eq_true rfl) (Nat.le_of_ble_eq_true rfl) (se_X1_wordAt hO0 _ pre0 (fun w15 hr16 => ?_))
  obtain ⟨o17, rfl, k18, t19, t20⟩ := hr16
  show uRun _ (uCall Mt _) _ 8 (_, [(.inr (.inr o17))], _, _, _)
  refine ur_svAk [some (.inr (.inr (some 0))), some (.inl a1), some (.inl a2), some (.inl a3), some (.inr (.inr o17)), none] rfl rfl ?_
  refine ur_ldA rfl rfl ?_
  refine ur_get rfl hc13 rfl ?_
  refine ur_ldI rfl rfl ?_
  refine ur_inl rfl (rcv_of hc1) (Nat.le_of_ble_eq_true rfl) (Nat.le_of_ble_eq_true rfl) (sd_X6_cometAt hO0 _ pre2 (fun w21 hr22 => ?_))
  obtain ⟨o23, rfl, k24, t25, t26⟩ := hr22
  show uRun _ (uCall Mt _) _ 18 (_, [(.inr (.inr o23))], _, _, _)
  refine ur_svAk [some (.inr (.inr (some 0))), some (.inl a1), some (.inl a2), some (.inl a3), some (.inr (.inr o17)), some (.inr (.inr o23))] rfl rfl ?_
  refine ur_ldA rfl rfl ?_
  cases o17 with
  | none =>
    refine ur_nulN rfl ?_
    have t28 := t19 rfl
    refine ur_push rfl ?_
    exact ur_ret rfl rfl (hQ _ _ ⟨_, rfl⟩ hO0 un.rf pre1)
  | some r27 =>
    refine ur_nulS rfl ?_
    have k29 := k18 _ rfl
    have t30 := t20 _ rfl
    refine ur_ldA rfl rfl ?_
    cases o23 with
    | none =>
      refine ur_nulN rfl ?_
      have t32 := t25 rfl
      refine ur_push rfl ?_
      exact ur_ret rfl rfl (hQ _ _ ⟨_, rfl⟩ hO0 un.rf pre1)
    | some r31 =>
      refine ur_nulS rfl ?_
      have k33 := k24 _ rfl
      have t34 := t26 _ rfl
      refine ur_ldI rfl rfl ?_
      refine ur_callv rfl rfl (Nat.le_of_ble_eq_true rfl) (Nat.le_of_ble_eq_true rfl) rfl (sp_isRet _ _) ?_
      refine ur_neB rfl (fun c37 => ?_) (fun c37 => ?_)
      · have t38 := wi_toL c37 l_m60 l_60
        obtain ⟨g59, f40, f41, f42, f43, f44, f45, f46, f47, f48, f49, q50, q51, o52, q53, hc39, k54, k55, k56, k57, k58⟩ := hO0.comet k33.2
        have t60 := fO_of (k := 8) hc39 rfl
        have t61 := fO_of (k := 9) hc39 rfl
        have cd62 := (pre1.1 a2.toInt r31 t34.1.1 t34.1.2 t34.2).1
        refine ur_ldA rfl rfl ?_
        refine ur_ldI rfl rfl ?_
        refine ur_inl rfl (rcv_of hc39) (Nat.le_of_ble_eq_true rfl) (Nat.le_of_ble_eq_true rfl) (sd_X2_hasReturn hO0 g59 k33.2 _ (fun w63 hr64 => ?_))
        obtain ⟨b65, rfl, t66, t67⟩ := hr64
        show uRun _ (uCall Mt _) _ 46 (_, [(.inl (bi b65))], _, _, _)
        refine ur_eqB rfl (fun c68 => ?_) (fun c68 => ?_)
        · have t69 := t67 c68
          clear t66 t67
          refine ur_push rfl ?_
          exact ur_ret rfl rfl (hQ _ _ ⟨_, rfl⟩ hO0 un.rf pre1)
        · have t70 := t66 c68
          clear t66 t67
          refine ur_ldA rfl rfl ?_
          refine ur_get rfl hc13 rfl ?_
          refine ur_ldA rfl rfl ?_
          refine ur_ldA rfl rfl ?_
          refine ur_ldI rfl rfl ?_
          obtain ⟨f72, f73, hc71, k74⟩ := ok_41 hO0
          refine ur_inl rfl (rcv_of hc71) (Nat.le_of_ble_eq_true rfl) (Nat.le_of_ble_eq_true rfl) (sd_X7_leastMove hO0 k29.1 k29.2 g59 k33.2 _ (by show -60 ≤ a3.toInt ∧ a3.toInt ≤ 60; omega) pre2 pre1 t34 pre3 pre4 pre5 pre6 t30 pre7 pre8 (by omega) (fun w75 h78 hr76 hO78 hv78 hp77 => ?_))
          have hu78 := hv78
          obtain ⟨x79, rfl⟩ := hr76
          show uRun _ (uCall Mt _) _ 61 (_, [(.inl x79)], _, _, _)
          refine ur_go rfl ?_
          have t80 := fO_of (k := 4) (hv78.ko (n := 5) hc1 rfl (wid_f (by decide)) (by decide)) rfl
          have t81 := fO_of (k := 1) (hv78.ko (n := 11) hc6 rfl (wid_f (by decide)) (by decide)) rfl
          exact ur_ret rfl rfl (hQ _ _ ⟨_, rfl⟩ hO78 hu78 hp77)
      · have t82 := wi_noL c37 l_m60 l_60
        refine ur_push rfl ?_
        exact ur_ret rfl rfl (hQ _ _ ⟨_, rfl⟩ hO0 un.rf pre1)
end SG8
