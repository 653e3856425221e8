/-! SIGHT: what a word fits; printed by program but for its head -/
section SG4
/-! SIGHT: what a word fits -/
def SPi (V : Int → Int) (sl d i : Int) : Prop := spF (V i) sl ≤ d ∧ d ≤ spT (V i) sl
def FPq (n : Int) (V : Int → Int) (sl : Int) (C A W : Int → Prop) (d : Int) : Prop := (∃ i, (0 ≤ i ∧ i < n) ∧ SPi V sl d i) ∧ C d ∧ A d ∧ W d
def FTw (n : Int) (V : Int → Int) (sl : Int) (C A : Int → Prop) (ki : Int) : Prop := ki = 7 → ∃ d, (∃ i, (0 ≤ i ∧ i < n) ∧ SPi V sl d i) ∧ C d ∧ ¬ A d
/-- the least day on which it fits, or -1 -/
def FTD (n : Int) (V : Int → Int) (sl : Int) (C A W : Int → Prop) (ki x : Int) : Prop := (x = -1 ∧ (FTw n V sl C A ki → ∀ d, ¬ FPq n V sl C A W d)) ∨ (0 ≤ x ∧ FTw n V sl C A ki ∧ FPq n V sl C A W x ∧ ∀ d, FPq n V sl C A W d → x ≤ d)
theorem FTD.u {n : Int} {V : Int → Int} {sl : Int} {C A W : Int → Prop} {ki x y : Int} (a : FTD n V sl C A W ki x) (b : FTD n V sl C A W ki y) : x = y := by
  rcases a with ⟨a1, a2⟩ | ⟨a1, a2, a3, a4⟩
  · rcases b with ⟨b1, -⟩ | ⟨-, b2, b3, -⟩
    · omega
    · exact absurd b3 (a2 b2 y)
  · rcases b with ⟨-, b2⟩ | ⟨b1, b2, b3, b4⟩
    · exact absurd a3 (b2 a2 x)
    · have := a4 y b3
      have := b4 x a3
      omega
theorem FTD.c {n n' : Int} {V V' : Int → Int} {sl sl' : Int} {C A W C' A' W' : Int → Prop} {ki ki' x : Int} (H : FTD n V sl C A W ki x) (en : n' = n) (eV : ∀ i, 0 ≤ i → i < n → V' i = V i) (es : sl' = sl) (ek : ki' = ki) (eC : ∀ d, C' d ↔ C d) (eA : ∀ d, C d → (A' d ↔ A d)) (eW : ∀ d i, 0 ≤ i → i < n → SPi V sl d i → C d → A d → (W' d ↔ W d)) : FTD n' V' sl' C' A' W' ki' x := by
  subst en es ek
  have sp : ∀ d, (∃ i, (0 ≤ i ∧ i < n') ∧ SPi V' sl' d i) ↔ (∃ i, (0 ≤ i ∧ i < n') ∧ SPi V sl' d i) := fun d => by
    constructor
    · rintro ⟨i, hi, q⟩
      refine ⟨i, hi, ?_⟩
      unfold SPi at q ⊢
      rw [← eV i hi.1 hi.2]
      exact q
    · rintro ⟨i, hi, q⟩
      refine ⟨i, hi, ?_⟩
      unfold SPi at q ⊢
      rw [eV i hi.1 hi.2]
      exact q
  have tw : FTw n' V' sl' C' A' ki' ↔ FTw n' V sl' C A ki' := by
    unfold FTw
    constructor
    · intro g k
      obtain ⟨d, s, c, a⟩ := g k
      exact ⟨d, (sp d).mp s, (eC d).mp c, fun q => a ((eA d ((eC d).mp c)).mpr q)⟩
    · intro g k
      obtain ⟨d, s, c, a⟩ := g k
      exact ⟨d, (sp d).mpr s, (eC d).mpr c, fun q => a ((eA d c).mp q)⟩
  have fp : ∀ d, FPq n' V' sl' C' A' W' d ↔ FPq n' V sl' C A W d := fun d => by
    constructor
    · rintro ⟨s, c, a, w⟩
      have s' := (sp d).mp s
      have c' := (eC d).mp c
      have a' := (eA d c').mp a
      obtain ⟨i, hi, q⟩ := s'
      exact ⟨⟨i, hi, q⟩, c', a', (eW d i hi.1 hi.2 q c' a').mp w⟩
    · rintro ⟨s, c, a, w⟩
      have s' := (sp d).mpr s
      obtain ⟨i, hi, q⟩ := s
      exact ⟨s', (eC d).mpr c, (eA d c).mpr a, (eW d i hi.1 hi.2 q c a).mpr w⟩
  rcases H with ⟨a1, a2⟩ | ⟨a1, a2, a3, a4⟩
  · exact Or.inl ⟨a1, fun t d q => a2 (tw.mp t) d ((fp d).mp q)⟩
  · exact Or.inr ⟨a1, tw.mpr a2, (fp x).mpr a3, fun d q => a4 d ((fp d).mp q)⟩
/-- the days that are through: all of the spans below I, those of span I below D -/
def FEd (V : Int → Int) (sl I D d : Int) : Prop := (∃ i, (0 ≤ i ∧ i < I) ∧ SPi V sl d i) ∨ (SPi V sl d I ∧ d < D)
def FIq (n : Int) (V : Int → Int) (sl : Int) (C A W : Int → Prop) (ki I D x en : Int) : Prop := ((x = -1 ∧ ∀ d, FEd V sl I D d → ¬ (C d ∧ A d ∧ W d)) ∨ (0 ≤ x ∧ FPq n V sl C A W x ∧ ∀ d, FEd V sl I D d → C d ∧ A d ∧ W d → x ≤ d)) ∧ (en ≠ 0 → FTw n V sl C A ki) ∧ (en = 0 → ki = 7 ∧ ∀ d, FEd V sl I D d → C d → A d)
section FIS
variable {n : Int} {V : Int → Int} {sl : Int} {C A W : Int → Prop} {ki I D x en : Int}
theorem spF_0 {v s : Int} : 0 ≤ spF v s := spF_nn
theorem FEd.z (h : FEd V sl 0 0 D) : False := by
  rcases h with ⟨i, hi, -⟩ | ⟨q, p⟩
  · omega
  · unfold SPi at q
    have := spF_0 (v := V 0) (s := sl)
    omega
theorem FIq.z (ex : x = -1) (e0 : I = 0) (eD : D = 0) (e1 : ki ≠ 7 ∧ en ≠ 0 ∨ ki = 7 ∧ en = 0) : FIq n V sl C A W ki I D x en := by
  subst ex e0 eD
  exact ⟨Or.inl ⟨rfl, fun d q => (FEd.z q).elim⟩, fun q k => by omega, fun q => ⟨by omega, fun d q => (FEd.z q).elim⟩⟩
theorem FIq.g {I' D' : Int} (H : FIq n V sl C A W ki I D x en) (h1 : ∀ d, FEd V sl I' D' d → FEd V sl I D d ∨ (¬ (C d ∧ A d ∧ W d) ∨ (x ≠ -1 ∧ x ≤ d))) (h2 : en = 0 → ∀ d, FEd V sl I' D' d → C d → FEd V sl I D d ∨ A d) : FIq n V sl C A W ki I' D' x en := by
  obtain ⟨a, b, c⟩ := H
  refine ⟨?_, b, fun q => ⟨(c q).1, fun d e k => ?_⟩⟩
  · rcases a with ⟨a1, a2⟩ | ⟨a1, a2, a3⟩
    · refine Or.inl ⟨a1, fun d e => ?_⟩
      rcases h1 d e with k | k | k
      · exact a2 d k
      · exact k
      · exact absurd a1 k.1
    · refine Or.inr ⟨a1, a2, fun d e k => ?_⟩
      rcases h1 d e with p | p | p
      · exact a3 d p k
      · exact absurd k p
      · exact p.2
  · rcases h2 q d e k with p | p
    · exact (c q).2 d p k
    · exact p
theorem FEd.s {d D' : Int} (h : FEd V sl I D' d) (e : D' = D + 1) : FEd V sl I D d ∨ (SPi V sl d I ∧ d = D) := by
  rcases h with h | ⟨h, p⟩
  · exact Or.inl (Or.inl h)
  · by_cases q : d < D
    · exact Or.inl (Or.inr ⟨h, q⟩)
    · exact Or.inr ⟨h, by omega⟩
/-- the days of the span ahead of where one begins -/
theorem FIq.i {D' : Int} (H : FIq n V sl C A W ki I D x en) (h1 : ∀ d, SPi V sl d I → d < D' → ¬ (C d ∧ A d ∧ W d)) (h2 : en = 0 → ∀ d, SPi V sl d I → d < D' → ¬ C d) : FIq n V sl C A W ki I D' x en := H.g (fun d e => by
    rcases e with e | ⟨e, p⟩
    · exact Or.inl (Or.inl e)
    · exact Or.inr (Or.inl (h1 d e p))) (fun q d e k => by
    rcases e with e | ⟨e, p⟩
    · exact Or.inl (Or.inl e)
    · exact absurd k (h2 q d e p))
/-- a day on which it can't be seen -/
theorem FIq.nn {D' : Int} (H : FIq n V sl C A W ki I D x en) (hc : ¬ C D) (e : D' = D + 1) : FIq n V sl C A W ki I D' x en := H.g (fun d q => by
    rcases q.s e with q | ⟨-, rfl⟩
    · exact Or.inl q
    · exact Or.inr (Or.inl (fun k => hc k.1))) (fun _ d q k => by
    rcases q.s e with q | ⟨-, rfl⟩
    · exact Or.inl q
    · exact absurd k hc)
/-- not as said -/
theorem FIq.u {D' en' : Int} (H : FIq n V sl C A W ki I D x en) (hI : 0 ≤ I ∧ I < n) (hs : SPi V sl D I) (hc : C D) (ha : ¬ A D) (e : D' = D + 1) (e1 : en' = 1) : FIq n V sl C A W ki I D' x en' := by
  have t : FTw n V sl C A ki := fun _ => ⟨D, ⟨I, hI, hs⟩, hc, ha⟩
  obtain ⟨a, -, -⟩ := H
  refine ⟨?_, fun _ => t, fun q => by omega⟩
  rcases a with ⟨a1, a2⟩ | ⟨a1, a2, a3⟩
  · refine Or.inl ⟨a1, fun d q => ?_⟩
    rcases q.s e with q | ⟨-, rfl⟩
    · exact a2 d q
    · exact fun k => ha k.2.1
  · refine Or.inr ⟨a1, a2, fun d q k => ?_⟩
    rcases q.s e with q | ⟨-, rfl⟩
    · exact a3 d q k
    · exact absurd k.2.1 ha
/-- a better day -/
theorem FIq.y {D' x' : Int} (H : FIq n V sl C A W ki I D x en) (hI : 0 ≤ I ∧ I < n) (hs : SPi V sl D I) (hc : C D) (ha : A D) (hw : W D) (hx : x = -1 ∨ D ≤ x) (e : D' = D + 1) (ex : x' = D) : FIq n V sl C A W ki I D' x' en := by
  rw [ex]
  obtain ⟨a, b, c⟩ := H
  have d0 : 0 ≤ D := by
    have := spF_0 (v := V I) (s := sl)
    unfold SPi at hs
    omega
  refine ⟨Or.inr ⟨d0, ⟨⟨I, hI, hs⟩, hc, ha, hw⟩, fun d q k => ?_⟩, b, fun q => ⟨(c q).1, fun d z k => ?_⟩⟩
  · rcases q.s e with q | ⟨-, rfl⟩
    · rcases a with ⟨-, a2⟩ | ⟨a1, -, a3⟩
      · exact absurd k (a2 d q)
      · have := a3 d q k
        omega
    · omega
  · rcases z.s e with z | ⟨-, rfl⟩
    · exact (c q).2 d z k
    · exact ha
/-- no better day -/
theorem FIq.k {D' : Int} (H : FIq n V sl C A W ki I D x en) (ha : A D) (hw : ¬ W D ∨ (x ≠ -1 ∧ x ≤ D)) (e : D' = D + 1) : FIq n V sl C A W ki I D' x en := H.g (fun d q => by
    rcases q.s e with q | ⟨-, rfl⟩
    · exact Or.inl q
    · rcases hw with hw | hw
      · exact Or.inr (Or.inl (fun k => hw k.2.2))
      · exact Or.inr (Or.inr hw)) (fun _ d q _ => by
    rcases q.s e with q | ⟨-, rfl⟩
    · exact Or.inl q
    · exact Or.inr ha)
/-- the span is through -/
theorem FIq.o {I' D' : Int} (H : FIq n V sl C A W ki I D x en) (h1 : ∀ d, SPi V sl d I → D ≤ d → ¬ (C d ∧ A d ∧ W d) ∨ (x ≠ -1 ∧ x ≤ d)) (h2 : en = 0 → ∀ d, SPi V sl d I → D ≤ d → ¬ C d) (e : I' = I + 1) (eD : D' = 0) : FIq n V sl C A W ki I' D' x en := by
  subst e eD
  have k : ∀ d, FEd V sl (I + 1) 0 d → FEd V sl I D d ∨ (SPi V sl d I ∧ D ≤ d) := fun d q => by
    rcases q with ⟨i, hi, q⟩ | ⟨q, p⟩
    · by_cases r : i < I
      · exact Or.inl (Or.inl ⟨i, ⟨hi.1, r⟩, q⟩)
      · obtain rfl : i = I := by omega
        by_cases s : d < D
        · exact Or.inl (Or.inr ⟨q, s⟩)
        · exact Or.inr ⟨q, by omega⟩
    · have := spF_0 (v := V (I + 1)) (s := sl)
      unfold SPi at q
      omega
  exact H.g (fun d q => (k d q).imp id (fun p => h1 d p.1 p.2)) (fun q d z c => (k d z).imp id (fun p => absurd c (h2 q d p.1 p.2)))
/-- all spans are through -/
theorem FIq.e {y : Int} (H : FIq n V sl C A W ki I D x en) (eI : n ≤ I) (h1 : en ≠ 0 ∧ y = x ∨ en = 0 ∧ y = -1) : FTD n V sl C A W ki y := by
  obtain ⟨a, b, c⟩ := H
  have f : ∀ d, (∃ i, (0 ≤ i ∧ i < n) ∧ SPi V sl d i) → FEd V sl I D d := fun d ⟨i, hi, q⟩ => Or.inl ⟨i, ⟨hi.1, by omega⟩, q⟩
  rcases h1 with ⟨h, rfl⟩ | ⟨h, rfl⟩
  · rcases a with ⟨a1, a2⟩ | ⟨a1, a2, a3⟩
    · exact Or.inl ⟨a1, fun _ d q => a2 d (f d q.1) q.2⟩
    · exact Or.inr ⟨a1, b h, a2, fun d q => a3 d (f d q.1) q.2⟩
  · refine Or.inl ⟨rfl, fun t => ?_⟩
    obtain ⟨d, s, k, m⟩ := t (c h).1
    exact absurd ((c h).2 d (f d s) k) m
end FIS
theorem FTD.r {n : Int} {V : Int → Int} {sl : Int} {C A W : Int → Prop} {ki x : Int} (H : FTD n V sl C A W ki x) : x = -1 ∨ 0 ≤ x ∧ x ≤ 999999 := by
  rcases H with ⟨a, -⟩ | ⟨a, -, ⟨⟨i, -, q⟩, -⟩, -⟩
  · exact Or.inl a
  · refine Or.inr ⟨a, ?_⟩
    unfold SPi spT at q
    split at q <;> omega
theorem fO_wu {W : List Nat} {h h' : aH} {z k : Nat} (hO : OK h) (g : un W h h') (t : 114 ≤ z ∧ tg h z = (110, 13)) (hk : k < 13) (hw : 22000 + k ∉ W) : fO h' z k = fO h z k := fO_eA (fA_un3 hO g t.1 t.2 hk hw)
theorem VC_un {W : List Nat} {h h' : aH} {z : Nat} (hO : OK h) (g : un W h h') (t : 114 ≤ z ∧ tg h z = (110, 13)) (w : 22011 ∉ W ∧ 22012 ∉ W) : VC h' z = VC h z := by
  unfold VC
  rw [fO_wu hO g t (k := 11) (by decide) w.1, fO_wu hO g t (k := 12) (by decide) w.2]
theorem sgx_uk {ls : List (List (Int × Int) × List (Int × Int))} {W : List Nat} {h h' : aH} {Y : Nat → Int → Int → Int → Prop} (H : SGx ls h Y) (hO : OK h) (hO' : OK h') (g : un W h h') (w : ∀ k ∈ [200, 221, 222, 223, 4, 1104, 1804, 21200, 21201, 21202, 21203, 21204, 21205, 21206, 21207, 21208, 21209, 21210, 21211, 21212, 21213], k ∉ W) : SGx ls h' Y := H.un hO g (fun k hk => w k (by revert hk; revert k; decide)) (fO_keep (a := 1) (ci := 6) (n := 5) (k := 4) hO hO' g (by decide) rfl (by decide) rfl (w 1104 (by decide))) (fO_keep (a := 8) (ci := 5) (n := 5) (k := 4) hO hO' g (by decide) rfl (by decide) rfl (w 1804 (by decide)))
theorem SGc.uk {ls : List (List (Int × Int) × List (Int × Int))} {W : List Nat} {h h' : aH} (H : SGc ls h) (hO : OK h) (hO' : OK h') (g : un W h h') (w : ∀ k ∈ [200, 221, 222, 223, 4, 1104, 1804, 21200, 21201, 21202, 21203, 21204, 21205, 21206, 21207, 21208, 21209, 21210, 21211, 21212, 21213], k ∉ W) : SGc ls h' := sgx_uk H hO hO' g w
theorem cz_un {W : List Nat} {h h' : aH} {c : Int} {z : Nat} (hO : OK h) (hO' : OK h') (g : un W h h') (H : (0 ≤ c ∧ c < fO h 1 4) ∧ cz h c z) (w : 4 ∉ W) (w2 : 1104 ∉ W) : (0 ≤ c ∧ c < fO h' 1 4) ∧ cz h' c z := by
  refine ⟨⟨H.1.1, ?_⟩, ?_⟩
  · rw [fO_keep (a := 1) (ci := 6) (n := 5) (k := 4) hO hO' g (by decide) rfl (by decide) rfl w2]
    exact H.1.2
  · have k := H.2
    unfold cz at k ⊢
    rw [arR_u4 hO g w]
    exact k
theorem n15_un {W : List Nat} {h h' : aH} (hO : OK h) (hO' : OK h') (g : un W h h') (w2 : 2501 ∉ W) : fO h' 15 1 = fO h 15 1 := fO_keep (a := 15) (ci := 1) (n := 11) (k := 1) hO hO' g (by decide) rfl (by decide) rfl w2
theorem wz_un {W : List Nat} {h h' : aH} {j : Int} {z : Nat} (hO : OK h) (hO' : OK h') (g : un W h h') (H : (0 ≤ j ∧ j < fO h 15 1) ∧ wz h j z) (w : 16 ∉ W) (w2 : 2501 ∉ W) : (0 ≤ j ∧ j < fO h' 15 1) ∧ wz h' j z := ⟨⟨H.1.1, by rw [n15_un hO hO' g w2]; exact H.1.2⟩, wz_c (arR_u hO g w).symm H.2⟩
theorem RTW.un {W : List Nat} {h h' : aH} (H : RTW h) (hO : OK h) (hO' : OK h') (g : un W h h') (w : ∀ k ∈ [16, 2501, 22004, 22009, 22010, 22011, 22012], k ∉ W) : RTW h' := fun i z r i0 i1 wz' q => by
  have wz1 := wz_c (arR_u hO g (w 16 (by decide))) wz'
  have t := wz_ok hO wz1
  have q1 := rtz_c (fA_un3 hO g t.1 t.2 (k := 9) (by decide) (w _ (by decide))) q
  have tr := rtz_ok hO t q1
  rw [n15_un hO hO' g (w 2501 (by decide))] at i1
  have k := H i z r i0 i1 wz1 q1
  unfold MVq at k ⊢
  rw [fO_wu hO g tr (k := 4) (by decide) (w _ (by decide)), fO_wu hO g tr (k := 10) (by decide) (w _ (by decide)), fO_wu hO g tr (k := 11) (by decide) (w _ (by decide)), fO_wu hO g tr (k := 12) (by decide) (w _ (by decide))]
  exact k
/-- lodges of the words that have one -/
def LDw (h : aH) : Prop := ∀ (j : Int) z, 0 ≤ j → j < fO h 15 1 → wz h j z → (fO h z 1 = 1 ∨ fO h z 1 = 6) → 0 ≤ fO h z 8 ∧ fO h z 8 ≤ 23
theorem LDw.un {W : List Nat} {h h' : aH} (H : LDw h) (hO : OK h) (hO' : OK h') (g : un W h h') (w : ∀ k ∈ [16, 2501, 22001, 22008], k ∉ W) : LDw h' := fun j z j0 j1 wz' => by
  have wz1 := wz_c (arR_u hO g (w 16 (by decide))) wz'
  have t := wz_ok hO wz1
  rw [n15_un hO hO' g (w 2501 (by decide))] at j1
  rw [fO_wu hO g t (k := 1) (by decide) (w _ (by decide)), fO_wu hO g t (k := 8) (by decide) (w _ (by decide))]
  exact H j z j0 j1 wz1
theorem spF_b {V sl : Int} (h : -2000000 ≤ V ∧ V ≤ 2000000 ∧ 0 ≤ sl ∧ sl ≤ 400) : 0 ≤ spF V sl ∧ spF V sl ≤ 2000000 := by
  unfold spF
  split <;> omega
theorem spT_b {V sl : Int} (h : -2000000 ≤ V ∧ V ≤ 2000000 ∧ 0 ≤ sl ∧ sl ≤ 400) : -2000400 ≤ spT V sl ∧ spT V sl ≤ 999999 := by
  unfold spT
  split <;> omega
theorem VC_b {h : aH} {r : Nat} {i : Int} (m : MVq h r) (i0 : 0 ≤ i) (i1 : i < fO h r 10) : -2000000 ≤ VC h r i ∧ VC h r i ≤ 2000000 ∧ 0 ≤ fO h r 4 ∧ fO h r 4 ≤ 400 := by
  unfold MVq at m
  unfold VC
  by_cases q : i = 0
  · rw [if_pos q]
    omega
  · rw [if_neg q]
    omega
/- the reference -/
theorem ofF_0 {g l : Int} (hg : 0 ≤ g ∧ g ≤ 359) (hl : 0 ≤ l ∧ l ≤ 23) : ofF g l = 0 ↔ g / 15 = l := by
  unfold ofF
  by_cases q : (g - 15 * l + 360) % 360 < 15
  · rw [if_pos q]
    omega
  · rw [if_neg q]
    by_cases r : (g - 15 * l + 360) % 360 - 14 ≤ 360 - (g - 15 * l + 360) % 360
    · rw [if_pos r]
      omega
    · rw [if_neg r]
      omega
/-- lodges of the words that have one, in the reference -/
def LDm (h : aH) : Prop := ∀ j : Int, 0 ≤ j → j < fI h 38 → (gI h 96 j = 1 ∨ gI h 96 j = 6) → 0 ≤ gI h 103 j ∧ gI h 103 j ≤ 23
theorem LDm.un {W : List Nat} {h h' : aH} (g : LDm h) (hO : OK h) (hO' : OK h') (u : un W h h') (w : 96 ∉ W ∧ 103 ∉ W) (w2 : 7938 ∉ W) : LDm h' := fun j j0 j1 => by
  rw [fI_keep (k := 38) hO hO' u rfl w2] at j1
  rw [gI_keep (a := 96) (kd := 0) (n := 150) hO u _ (by decide) rfl (by decide) rfl (by decide) w.1, gI_keep (a := 103) (kd := 0) (n := 150) hO u _ (by decide) rfl (by decide) rfl (by decide) w.2]
  exact g j j0 j1
def TUq (n : Int) (V : Int → Int) (sl : Int) (C B : Int → Prop) : Prop := ∃ d, (∃ i, (0 ≤ i ∧ i < n) ∧ SPi V sl d i) ∧ C d ∧ ¬ B d
/-- all days that are through and on which it can be seen are as said -/
def TIq (V : Int → Int) (sl : Int) (C B : Int → Prop) (I D : Int) : Prop := ∀ d, FEd V sl I D d → C d → B d
section TIS
variable {n : Int} {V : Int → Int} {sl : Int} {C A B W : Int → Prop} {ki I D x en : Int}
theorem TIq.z (e0 : I = 0) (eD : D = 0) : TIq V sl C B I D := by
  subst e0 eD
  exact fun d q => (FEd.z q).elim
theorem TIq.i {D' : Int} (H : TIq V sl C B I D) (h2 : ∀ d, SPi V sl d I → d < D' → ¬ C d) : TIq V sl C B I D' := fun d e k => by
  rcases e with e | ⟨e, p⟩
  · exact H d (Or.inl e) k
  · exact absurd k (h2 d e p)
theorem TIq.s {D' : Int} (H : TIq V sl C B I D) (hc : C D → B D) (e : D' = D + 1) : TIq V sl C B I D' := fun d q k => by
  rcases q.s e with q | ⟨-, rfl⟩
  · exact H d q k
  · exact hc k
theorem TIq.o {I' D' : Int} (H : TIq V sl C B I D) (h2 : ∀ d, SPi V sl d I → D ≤ d → ¬ C d) (e : I' = I + 1) (eD : D' = 0) : TIq V sl C B I' D' := by
  subst e eD
  intro d q k
  rcases q with ⟨i, hi, q⟩ | ⟨q, p⟩
  · by_cases r : i < I
    · exact H d (Or.inl ⟨i, ⟨hi.1, r⟩, q⟩) k
    · obtain rfl : i = I := by omega
      by_cases s : d < D
      · exact H d (Or.inr ⟨q, s⟩) k
      · exact absurd k (h2 d q (by omega))
  · have := spF_0 (v := V (I + 1)) (s := sl)
    unfold SPi at q
    omega
theorem TIq.e (H : TIq V sl C B I D) (e : n ≤ I) : ¬ TUq n V sl C B := fun ⟨d, ⟨i, hi, q⟩, c, b⟩ => b (H d (Or.inl ⟨i, ⟨hi.1, by omega⟩, q⟩) c)
/-- a day that it does not fit -/
theorem FIq.f {D' : Int} (H : FIq n V sl C A W ki I D x en) (hn : en ≠ 0) (hc : ¬ (C D ∧ A D)) (e : D' = D + 1) : FIq n V sl C A W ki I D' x en := H.g (fun d q => by
    rcases q.s e with q | ⟨-, rfl⟩
    · exact Or.inl q
    · exact Or.inr (Or.inl (fun k => hc ⟨k.1, k.2.1⟩))) (fun q => absurd q hn)
theorem FTw_0 : FTw n V sl C A 0 := fun q => absurd q (by decide)
/-- TWICE wants a day that is not as said, too -/
theorem FTD.tw {y : Int} (H : FTD n V sl C A W 0 x) (hB : ki = 7 → ∀ d, C d → (A d ↔ B d)) (hy : (ki ≠ 7 ∧ y = x) ∨ (x < 0 ∧ y = x) ∨ (ki = 7 ∧ 0 ≤ x ∧ TUq n V sl C B ∧ y = x) ∨ (ki = 7 ∧ 0 ≤ x ∧ ¬ TUq n V sl C B ∧ y = -1)) : FTD n V sl C A W ki y := by
  have tu : ki = 7 → (TUq n V sl C B ↔ ∃ d, (∃ i, (0 ≤ i ∧ i < n) ∧ SPi V sl d i) ∧ C d ∧ ¬ A d) := fun k => by
    constructor
    · rintro ⟨d, s, c, b⟩
      exact ⟨d, s, c, fun a => b ((hB k d c).mp a)⟩
    · rintro ⟨d, s, c, b⟩
      exact ⟨d, s, c, fun a => b ((hB k d c).mpr a)⟩
  rcases H with ⟨a1, a2⟩ | ⟨a1, a2, a3, a4⟩
  · have a3 := a2 FTw_0
    rcases hy with ⟨-, e⟩ | ⟨-, e⟩ | ⟨-, q, -⟩ | ⟨-, q, -⟩
    · exact Or.inl ⟨by omega, fun _ => a3⟩
    · exact Or.inl ⟨by omega, fun _ => a3⟩
    · omega
    · omega
  · rcases hy with ⟨k, rfl⟩ | ⟨q, -⟩ | ⟨k, -, t, rfl⟩ | ⟨k, -, t, e⟩
    · exact Or.inr ⟨a1, fun q => absurd q k, a3, a4⟩
    · omega
    · exact Or.inr ⟨a1, fun _ => (tu k).mp t, a3, a4⟩
    · exact Or.inl ⟨e, fun g => absurd ((tu k).mpr (g k)) t⟩
end TIS
theorem asP_7 {ls : List (List (Int × Int) × List (Int × Int))} {ki mo p nd w q b e d : Int} (k : ki = 7) : asP ls ki mo p nd w q b e d ↔ (wsF (dgF nd w q e) d ↔ mo = 1) := by
  unfold asP
  exact ⟨fun H => H.2.2.1 (Or.inr k), fun H => ⟨fun q => by omega, fun q => by omega, fun _ => H, fun q => by omega, fun q => by omega⟩⟩
theorem VM_f {h h' : aH} (hO : OK h) (g : un [] h h') {M : Nat → List (List (Int × Int) × List (Int × Int))} {r : Int} : VM h' M r = VM h M r := funext fun _ => VM_c hO g
set_option maxRecDepth 20000 in
set_option maxHeartbeats 4000000 in
theorem sd_X5_fitDay {d kc ks : Nat} {h0 : aH} {Q : Option aV → aH → Prop} {ls : List (List (Int × Int) × List (Int × Int))} {l1 : List (List (Int × Int) × List (Int × Int))} {c0 : Int} {j0 : Int} (hO0 : OK h0) {a1 : Nat} (g1 : 114 ≤ a1) (t1 : tg h0 a1 = (110, 13)) {a2 : Nat} (g2 : 114 ≤ a2) (t2 : tg h0 a2 = (102, 14)) (a3 : Int32) (b3 : -60 ≤ a3.toInt ∧ a3.toInt ≤ 60) (a4 : Int32) (b4 : -1000000 ≤ a4.toInt ∧ a4.toInt ≤ 1000000) (a5 : Int32) (b5 : -120 ≤ a5.toInt ∧ a5.toInt ≤ 120) (a6 : Int32) (b6 : -120 ≤ a6.toInt ∧ a6.toInt ≤ 120) (pre0 : SKc h0) (pre1 : SGc ls h0) (pre2 : (0 ≤ c0 ∧ c0 < fO h0 1 4) ∧ cz h0 c0 a2) (pre3 : txC h0 9 = cfl 0 ls) (pre4 : ∀ l ∈ ls, lnG l) (pre5 : txC h0 11 = cfl 0 l1) (pre6 : ∀ l ∈ l1, lnG l) (pre7 : (0 ≤ j0 ∧ j0 < fO h0 15 1) ∧ wz h0 j0 a1) (pre8 : RTW h0) (pre9 : LDw h0) (pre10 : fO h0 a2 8 ≤ a3.toInt ∧ a3.toInt ≤ fO h0 a2 9) (hQ : ∀ r h', (∃ x : Int32, r = some (.inl x) ∧ ((∃ r, rtz h0 a1 r ∧ FTD (fO h0 r 10) (VC h0 r) (fO h0 r 4) (fun d => canP ls (fO h0 a2 2) (fO h0 a2 4) (fO h0 a2 3) (fO h0 a2 5) (fO h0 a1 2) (cf h0 a2 a3.toInt + a4.toInt) d) (fun d => asP l1 (fO h0 a1 1) (fO h0 a1 8) (fO h0 a1 2) (fO h0 a2 2) (fO h0 a2 4) (fO h0 a2 3) (fO h0 a2 5) (d - (cf h0 a2 a3.toInt + a4.toInt)) d) (fun d => a5.toInt ≤ d - (cf h0 a2 a3.toInt + a4.toInt) ∧ d - (cf h0 a2 a3.toInt + a4.toInt) ≤ a6.toInt) (fO h0 a1 1) x.toInt) ∧ -1 ≤ x.toInt ∧ x.toInt ≤ 999999)) → OK h' → un [222, 223, 21212] h0 h' → (SGc ls h') → Q r h') : uCall Mt (d + 6) 53 [(.inr (.inr (some 8))), (.inr (.inr (some a1))), (.inr (.inr (some a2))), (.inl a3), (.inl a4), (.inl a5), (.inl a6)] h0 kc ks Q := by
  have l_m120 : ((-120) : Int32).toInt = -120 := by decide
  have l_m1 : ((-1) : Int32).toInt = -1 := by decide
  have l_0 : ((0) : Int32).toInt = 0 := by decide
  have l_1 : ((1) : Int32).toInt = 1 := by decide
  have l_7 : ((7) : Int32).toInt = 7 := by decide
  have l_120 : ((120) : Int32).toInt = 120 := by decide
  refine uc_ink [some (.inr (.inr (some 8))), some (.inr (.inr (some a1))), some (.inr (.inr (some a2))), some (.inl a3), some (.inl a4), some (.inl a5), some (.inl a6), none, none, none, none, none, none, none, none, none] mt_53 (Nat.le_of_ble_eq_true rfl) rfl ?_
  have cd1 := (pre1.1 c0 a2 pre2.1.1 pre2.1.2 pre2.2).1
  obtain ⟨g18, f3, f4, f5, f6, f7, f8, f9, f10, f11, o15, f12, f13, f14, hc2, k16, k17⟩ := hO0.word t1
  have tt19 := fO_of (k := 1) hc2 rfl
  have tt20 := fO_of (k := 2) hc2 rfl
  have tt21 := fO_of (k := 8) hc2 rfl
  have ld22 := pre9 j0 a1 pre7.1.1 pre7.1.2 pre7.2
  refine ur_ldA rfl rfl ?_
  refine ur_ldI rfl rfl ?_
  obtain ⟨g43, f24, f25, f26, f27, f28, f29, f30, f31, f32, f33, q34, q35, o36, q37, hc23, k38, k39, k40, k41, k42⟩ := hO0.comet t2
  refine ur_inl rfl (rcv_of hc23) (Nat.le_of_ble_eq_true rfl) (Nat.le_of_ble_eq_true rfl) (sd_X2_passOf hO0 g43 t2 _ (by show -60 ≤ a3.toInt ∧ a3.toInt ≤ 60; omega) (fun w44 hr45 => ?_))
  obtain ⟨x46, rfl, f47⟩ := hr45
  show uRun _ (uCall Mt _) _ 5 (_, [(.inl x46)], _, _, _)
  have tt48 : x46.toInt = cf h0 a2 a3.toInt := by unfold cf; rw [if_pos (by omega)]; exact f47
  have tt49 := pre0.rg pre2.1 pre2.2 (k := a3.toInt) (by omega)
  refine ur_ldI rfl rfl ?_
  refine ur_binV rfl (fun x50 e51 => ?_)
  have z52 := any_r x46
  have z53 := any_r a4
  have t54 := ti_add e51 (by omega) (by omega)
  refine ur_svIk [some (.inr (.inr (some 8))), some (.inr (.inr (some a1))), some (.inr (.inr (some a2))), some (.inl a3), some (.inl a4), some (.inl a5), some (.inl a6), some (.inl x50), none, none, none, none, none, none, none, none] rfl rfl ?_
  refine ur_ldA rfl rfl ?_
  refine ur_inl rfl (rcv_of hc2) (Nat.le_of_ble_eq_true rfl) (Nat.le_of_ble_eq_true rfl) (sd_X10_rootWord hO0 g18 t1 (fun w55 hr56 => ?_))
  obtain ⟨r57, rfl, k58, f59⟩ := hr56
  show uRun _ (uCall Mt _) _ 14 (_, [(.inr (.inr (some r57)))], _, _, _)
  have mv60 := pre8 j0 a1 r57 pre7.1.1 pre7.1.2 pre7.2 f59
  have mv61 := mv60
  unfold MVq at mv61
  refine ur_svAk [some (.inr (.inr (some 8))), some (.inr (.inr (some a1))), some (.inr (.inr (some a2))), some (.inl a3), some (.inl a4), some (.inl a5), some (.inl a6), some (.inl x50), some (.inr (.inr (some r57))), none, none, none, none, none, none, none] rfl rfl ?_
  refine ur_ldA rfl rfl ?_
  refine ur_get rfl hc2 rfl ?_
  refine ur_push rfl ?_
  refine ur_if2 rfl (fun c62 => ?_) (fun c62 => ?_)
  · have t63 := ne_to c62
    refine ur_push rfl ?_
    refine ur_svIk [some (.inr (.inr (some 8))), some (.inr (.inr (some a1))), some (.inr (.inr (some a2))), some (.inl a3), some (.inl a4), some (.inl a5), some (.inl a6), some (.inl x50), some (.inr (.inr (some r57))), some (.inl 0), none, none, none, none, none, none] rfl rfl ?_
    refine ur_ldI rfl rfl ?_
    refine ur_if1f rfl (by decide) ?_
    refine ur_push rfl ?_
    refine ur_go rfl ?_
    refine ur_svIk [some (.inr (.inr (some 8))), some (.inr (.inr (some a1))), some (.inr (.inr (some a2))), some (.inl a3), some (.inl a4), some (.inl a5), some (.inl a6), some (.inl x50), some (.inr (.inr (some r57))), some (.inl 0), some (.inl 1), none, none, none, none, none] rfl rfl ?_
    refine ur_push rfl ?_
    refine ur_svIk [some (.inr (.inr (some 8))), some (.inr (.inr (some a1))), some (.inr (.inr (some a2))), some (.inl a3), some (.inl a4), some (.inl a5), some (.inl a6), some (.inl x50), some (.inr (.inr (some r57))), some (.inl 0), some (.inl 1), some (.inl (-1)), none, none, none, none] rfl rfl ?_
    refine ur_push rfl ?_
    refine ur_svIk [some (.inr (.inr (some 8))), some (.inr (.inr (some a1))), some (.inr (.inr (some a2))), some (.inl a3), some (.inl a4), some (.inl a5), some (.inl a6), some (.inl x50), some (.inr (.inr (some r57))), some (.inl 0), some (.inl 1), some (.inl (-1)), some (.inl 0), none, none, none] rfl rfl ?_
    have L70 : ∀ (m71 : Nat) (x64 : Int32) (x65 : Int32) (x66 : Int32) (u67 : Option aV) (u68 : Option aV) (u69 : Option aV) (h73 : aH) , OK h73 → un [222, 223, 21212] h0 h73 → ((0 ≤ x66.toInt ∧ x66.toInt ≤ 2) ∧ (-1 ≤ x65.toInt ∧ x65.toInt ≤ 999999) ∧ (0 ≤ x64.toInt ∧ x64.toInt ≤ 1) ∧ x66.toInt ≤ fO h0 r57 10) → (FIq (fO h0 r57 10) (VC h0 r57) (fO h0 r57 4) (fun d => canP ls (fO h0 a2 2) (fO h0 a2 4) (fO h0 a2 3) (fO h0 a2 5) (fO h0 a1 2) (cf h0 a2 a3.toInt + a4.toInt) d) (fun d => asP l1 (fO h0 a1 1) (fO h0 a1 8) (fO h0 a1 2) (fO h0 a2 2) (fO h0 a2 4) (fO h0 a2 3) (fO h0 a2 5) (d - (cf h0 a2 a3.toInt + a4.toInt)) d) (fun d => a5.toInt ≤ d - (cf h0 a2 a3.toInt + a4.toInt) ∧ d - (cf h0 a2 a3.toInt + a4.toInt) ≤ a6.toInt) (fO h0 a1 1) x66.toInt 0 x65.toInt x64.toInt) → (SGc ls h73) → ((3 - x66.toInt).toNat) < m71 → uRun oX5_fitDay (uCall Mt (d + 5)) Q 50 ([some (.inr (.inr (some 8))), some (.inr (.inr (some a1))), some (.inr (.inr (some a2))), some (.inl a3), some (.inl a4), some (.inl a5), some (.inl a6), some (.inl x50), some (.inr (.inr (some r57))), some (.inl 0), some (.inl x64), some (.inl x65), some (.inl x66), u67, u68, u69], [], h73, kc, ks) := by
      intro m71
      induction m71 with
      | zero => intro x64 x65 x66 u67 u68 u69 h73 hO73 hu73 iv76 px74 px75 mm77; omega
      | succ m71 ih72 =>
        intro x64 x65 x66 u67 u68 u69 h73 hO73 hu73 iv76 px74 px75 mm77
        have tt78 : fO h73 r57 4 = fO h0 r57 4 := fO_wu hO0 hu73 ⟨k58.1, k58.2⟩ (by decide) (by decide)
        have tt79 : fO h73 r57 10 = fO h0 r57 10 := fO_wu hO0 hu73 ⟨k58.1, k58.2⟩ (by decide) (by decide)
        have tt80 : fO h73 r57 11 = fO h0 r57 11 := fO_wu hO0 hu73 ⟨k58.1, k58.2⟩ (by decide) (by decide)
        have tt81 : fO h73 r57 12 = fO h0 r57 12 := fO_wu hO0 hu73 ⟨k58.1, k58.2⟩ (by decide) (by decide)
        obtain ⟨g98, f83, f84, f85, f86, f87, f88, f89, f90, f91, o95, f92, f93, f94, hc82, k96, k97⟩ := hO73.word (hu73.tm k58.2 (by decide))
        have tt99 := fO_of (k := 10) hc82 rfl
        refine ur_ldI rfl rfl ?_
        refine ur_ldA rfl rfl ?_
        refine ur_get rfl hc82 rfl ?_
        have z100 := any_r x66
        have z101 := any_r f92
        refine ur_if2 rfl (fun c102 => ?_) (fun c102 => ?_)
        · have t103 := le_to c102
          refine ur_ldI rfl rfl ?_
          refine ur_if1 rfl (fun c104 => ?_) (fun c104 => ?_)
          · have t105 := eq_to c104
            refine ur_push rfl ?_
            exact ur_ret rfl rfl (hQ _ _ ⟨_, rfl, ⟨⟨r57, f59, (px74.e (by omega) (by omega))⟩, by omega⟩⟩ hO73 hu73 px75)
          · have t106 := eq_no c104
            refine ur_ldI rfl rfl ?_
            refine ur_go rfl ?_
            exact ur_ret rfl rfl (hQ _ _ ⟨_, rfl, ⟨⟨r57, f59, (px74.e (by omega) (by omega))⟩, by omega⟩⟩ hO73 hu73 px75)
        · have t107 := le_no c102
          refine ur_ldA rfl rfl ?_
          refine ur_ldI rfl rfl ?_
          refine ur_inl rfl (rcv_of hc82) (Nat.le_of_ble_eq_true rfl) (Nat.le_of_ble_eq_true rfl) (st_X10_spanFrom hO73 g98 (hu73.tm k58.2 (by decide)) _ (by omega) (fun w108 hr109 => ?_))
          obtain ⟨x110, rfl, f111⟩ := hr109
          show uRun _ (uCall Mt _) _ 67 (_, [(.inl x110)], _, _, _)
          have e112 : x110.toInt = spF (VC h0 r57 x66.toInt) (fO h0 r57 4) := by have q := f111; rw [fO_wu hO0 hu73 ⟨k58.1, k58.2⟩ (k := 4) (by decide) (by decide), fO_wu hO0 hu73 ⟨k58.1, k58.2⟩ (k := 11) (by decide) (by decide), fO_wu hO0 hu73 ⟨k58.1, k58.2⟩ (k := 12) (by decide) (by decide)] at q; exact q
          have tt113 := spF_b (VC_b mv60 (i := x66.toInt) (by omega) (by omega))
          refine ur_ldI rfl rfl ?_
          refine ur_ldI rfl rfl ?_
          refine ur_if1t rfl (by decide) ?_
          refine ur_ldI rfl rfl ?_
          refine ur_binV rfl (fun x114 e115 => ?_)
          have z116 := any_r x50
          have z117 := any_r a5
          have t118 := ti_add e115 (by omega) (by omega)
          refine ur_maxV rfl (by show ¬ 9 ≤ 2; decide) (fun x119 t120 e121 => ?_)
          refine ur_svIk [some (.inr (.inr (some 8))), some (.inr (.inr (some a1))), some (.inr (.inr (some a2))), some (.inl a3), some (.inl a4), some (.inl a5), some (.inl a6), some (.inl x50), some (.inr (.inr (some r57))), some (.inl 0), some (.inl x64), some (.inl x65), some (.inl x66), some (.inl x119), u68, u69] rfl rfl ?_
          refine ur_ldA rfl rfl ?_
          refine ur_ldI rfl rfl ?_
          refine ur_inl rfl (rcv_of hc82) (Nat.le_of_ble_eq_true rfl) (Nat.le_of_ble_eq_true rfl) (st_X10_spanTo hO73 g98 (hu73.tm k58.2 (by decide)) _ (by omega) (fun w122 hr123 => ?_))
          obtain ⟨x124, rfl, f125⟩ := hr123
          show uRun _ (uCall Mt _) _ 94 (_, [(.inl x124)], _, _, _)
          have e126 : x124.toInt = spT (VC h0 r57 x66.toInt) (fO h0 r57 4) := by have q := f125; rw [fO_wu hO0 hu73 ⟨k58.1, k58.2⟩ (k := 4) (by decide) (by decide), fO_wu hO0 hu73 ⟨k58.1, k58.2⟩ (k := 11) (by decide) (by decide), fO_wu hO0 hu73 ⟨k58.1, k58.2⟩ (k := 12) (by decide) (by decide)] at q; exact q
          have tt127 := spT_b (VC_b mv60 (i := x66.toInt) (by omega) (by omega))
          refine ur_ldI rfl rfl ?_
          refine ur_ldI rfl rfl ?_
          refine ur_if1t rfl (by decide) ?_
          refine ur_ldI rfl rfl ?_
          refine ur_binV rfl (fun x128 e129 => ?_)
          have z130 := any_r a6
          have t131 := ti_add e129 (by omega) (by omega)
          refine ur_minV rfl (by show ¬ 9 ≤ 2; decide) (fun x132 t133 e134 => ?_)
          refine ur_svIk [some (.inr (.inr (some 8))), some (.inr (.inr (some a1))), some (.inr (.inr (some a2))), some (.inl a3), some (.inl a4), some (.inl a5), some (.inl a6), some (.inl x50), some (.inr (.inr (some r57))), some (.inl 0), some (.inl x64), some (.inl x65), some (.inl x66), some (.inl x119), some (.inl x132), u69] rfl rfl ?_
          refine ur_ldI rfl rfl ?_
          refine ur_svIk [some (.inr (.inr (some 8))), some (.inr (.inr (some a1))), some (.inr (.inr (some a2))), some (.inl a3), some (.inl a4), some (.inl a5), some (.inl a6), some (.inl x50), some (.inr (.inr (some r57))), some (.inl 0), some (.inl x64), some (.inl x65), some (.inl x66), some (.inl x119), some (.inl x132), some (.inl x119)] rfl rfl ?_
          have L138 : ∀ (m139 : Nat) (x135 : Int32) (x136 : Int32) (x137 : Int32) (h141 : aH) , OK h141 → un [222, 223, 21212] h73 h141 → ((0 ≤ x137.toInt ∧ x137.toInt ≤ 2100000) ∧ (-1 ≤ x136.toInt ∧ x136.toInt ≤ 999999) ∧ (0 ≤ x135.toInt ∧ x135.toInt ≤ 1) ∧ x119.toInt ≤ x137.toInt) → (FIq (fO h0 r57 10) (VC h0 r57) (fO h0 r57 4) (fun d => canP ls (fO h0 a2 2) (fO h0 a2 4) (fO h0 a2 3) (fO h0 a2 5) (fO h0 a1 2) (cf h0 a2 a3.toInt + a4.toInt) d) (fun d => asP l1 (fO h0 a1 1) (fO h0 a1 8) (fO h0 a1 2) (fO h0 a2 2) (fO h0 a2 4) (fO h0 a2 3) (fO h0 a2 5) (d - (cf h0 a2 a3.toInt + a4.toInt)) d) (fun d => a5.toInt ≤ d - (cf h0 a2 a3.toInt + a4.toInt) ∧ d - (cf h0 a2 a3.toInt + a4.toInt) ≤ a6.toInt) (fO h0 a1 1) x66.toInt x137.toInt x136.toInt x135.toInt) → (SGc ls h141) → ((2100001 - x137.toInt).toNat) < m139 → uRun oX5_fitDay (uCall Mt (d + 5)) Q 118 ([some (.inr (.inr (some 8))), some (.inr (.inr (some a1))), some (.inr (.inr (some a2))), some (.inl a3), some (.inl a4), some (.inl a5), some (.inl a6), some (.inl x50), some (.inr (.inr (some r57))), some (.inl 0), some (.inl x135), some (.inl x136), some (.inl x66), some (.inl x119), some (.inl x132), some (.inl x137)], [], h141, kc, ks) := by
            intro m139
            induction m139 with
            | zero => intro x135 x136 x137 h141 hO141 hu141 iv144 px142 px143 mm145; omega
            | succ m139 ih140 =>
              intro x135 x136 x137 h141 hO141 hu141 iv144 px142 px143 mm145
              refine ur_ldI rfl rfl ?_
              refine ur_ldI rfl rfl ?_
              have z146 := any_r x137
              have z147 := any_r x132
              refine ur_if2 rfl (fun c148 => ?_) (fun c148 => ?_)
              · have t149 := lt_to c148
                refine ur_incV (fun z => [some (.inr (.inr (some 8))), some (.inr (.inr (some a1))), some (.inr (.inr (some a2))), some (.inl a3), some (.inl a4), some (.inl a5), some (.inl a6), some (.inl x50), some (.inr (.inr (some r57))), some (.inl 0), some (.inl x135), some (.inl x136), some (.inl z), some (.inl x119), some (.inl x132), some (.inl x137)]) rfl rfl (fun _ => rfl) (fun x150 e151 => ?_)
                have t152 := ti_add e151 (by omega) (by omega)
                refine ur_go rfl ?_
                have z153 := any_r x135
                have z154 := any_r x136
                have z155 := any_r x150
                exact ih72 x135 x136 x150 _ _ _ _ hO141 (hu73.tr hu141) (by omega) (px142.o (fun d q p => Or.inl (fun k => by have k1 := k.1.1; have k2 : a5.toInt ≤ d - (cf h0 a2 a3.toInt + a4.toInt) ∧ d - (cf h0 a2 a3.toInt + a4.toInt) ≤ a6.toInt := k.2.2; unfold SPi at q; rw [← e112, ← e126] at q; omega)) (fun q d s9 p k => by have z9 := (px142.2.2 q).1; have k1 := k.1; unfold SPi at s9; rw [← e112, ← e126] at s9; omega) (by omega) rfl) px143 (by omega)
              · have t156 := lt_no c148
                refine ur_ldI rfl rfl ?_
                refine ur_if1 rfl (fun c157 => ?_) (fun c157 => ?_)
                · have t158 := eq_to c157
                  refine ur_ldA rfl rfl ?_
                  refine ur_ldA rfl rfl ?_
                  refine ur_ldA rfl rfl ?_
                  refine ur_get rfl (hu141.ko (n := 13) (hu73.ko (n := 13) hc2 rfl (wid_w g18) (by decide)) rfl (wid_w g18) (by decide)) rfl ?_
                  refine ur_ldI rfl rfl ?_
                  refine ur_ldI rfl rfl ?_
                  refine ur_ldI rfl rfl ?_
                  obtain ⟨f160, hc159, k161⟩ := ok_8 hO141
                  refine ur_inl rfl (rcv_of hc159) (Nat.le_of_ble_eq_true rfl) (Nat.le_of_ble_eq_true rfl) (sd_X5_seenOn hO141 g43 (hu141.tm (hu73.tm t2 (by decide)) (by decide)) _ (by show 0 ≤ f5.toInt ∧ f5.toInt ≤ 8; omega) _ (by show -60 ≤ a3.toInt ∧ a3.toInt ≤ 60; omega) _ (by show -1000000 ≤ a4.toInt ∧ a4.toInt ≤ 1000000; omega) _ (by show 0 ≤ x137.toInt ∧ x137.toInt ≤ 999999; omega) ((pre0.un hO0 hO73 hu73 (by decide)).un hO73 hO141 hu141 (by decide)) px143 (cz_un hO0 hO141 (hu73.tr hu141) pre2 (by decide) (by decide)) ((txC_un hO0 hO141 (hu73.tr hu141) (by decide) 9 (by decide)).trans pre3) pre4 (by rw [fO_eA (fC_un hO0 (hu73.tr hu141) g2 t2 (k := 8) (by decide) (by decide)), fO_eA (fC_un hO0 (hu73.tr hu141) g2 t2 (k := 9) (by decide) (by decide))]; exact pre10) (fun w162 h165 hr163 hO165 hv165 hp164 => ?_))
                  have hu165 := hv165
                  obtain ⟨b166, rfl, t167, t168⟩ := hr163
                  show uRun _ (uCall Mt _) _ 160 (_, [(.inl (bi b166))], _, _, _)
                  refine ur_neB rfl (fun c169 => ?_) (fun c169 => ?_)
                  · have t170 := t167 c169
                    clear t167 t168
                    have C171 := t170
                    rw [fO_eA (fC_un hO0 (hu73.tr hu141) g2 t2 (k := 2) (by decide) (by decide)), fO_eA (fC_un hO0 (hu73.tr hu141) g2 t2 (k := 3) (by decide) (by decide)), fO_eA (fC_un hO0 (hu73.tr hu141) g2 t2 (k := 4) (by decide) (by decide)), fO_eA (fC_un hO0 (hu73.tr hu141) g2 t2 (k := 5) (by decide) (by decide)), cf_un hO0 (hu73.tr hu141) g2 t2 (by decide), show f5.toInt = fO h0 a1 2 by omega] at C171
                    have tt172 := C171.1
                    refine ur_ldA rfl rfl ?_
                    refine ur_ldA rfl rfl ?_
                    refine ur_ldA rfl rfl ?_
                    refine ur_ldI rfl rfl ?_
                    refine ur_ldI rfl rfl ?_
                    refine ur_binV rfl (fun x173 e174 => ?_)
                    have t175 := ti_sub e174 (by omega) (by omega)
                    refine ur_ldI rfl rfl ?_
                    refine ur_inl rfl (rcv_of (hv165.ko (n := 5) hc159 rfl (wid_f (by decide)) (by decide))) (Nat.le_of_ble_eq_true rfl) (Nat.le_of_ble_eq_true rfl) (sd_X5_isAsSaid hO165 g18 (hu165.tm (hu141.tm (hu73.tm t1 (by decide)) (by decide)) (by decide)) g43 (hu165.tm (hu141.tm (hu73.tm t2 (by decide)) (by decide)) (by decide)) _ (by show -120 ≤ x173.toInt ∧ x173.toInt ≤ 120; omega) _ (by show 0 ≤ x137.toInt ∧ x137.toInt ≤ 999999; omega) (cd1.un hO0 (hu73.tr (hu141.tr hu165)) g2 t2 (by decide) (by decide)) ((txC_un hO0 hO165 (hu73.tr (hu141.tr hu165)) (by decide) 11 (by decide)).trans pre5) pre6 (by rw [fO_wu hO0 (hu73.tr (hu141.tr hu165)) ⟨g1, t1⟩ (k := 1) (by decide) (by decide), fO_wu hO0 (hu73.tr (hu141.tr hu165)) ⟨g1, t1⟩ (k := 8) (by decide) (by decide)]; exact ld22) (fun w176 h178 hr177 hO178 hv178 => ?_))
                    have hu178 : un [222, 223, 21212] h165 h178 := hv178.mono (by decide)
                    obtain ⟨b179, rfl, t180, t181⟩ := hr177
                    show uRun _ (uCall Mt _) _ 179 (_, [(.inl (bi b179))], _, _, _)
                    refine ur_neB rfl (fun c182 => ?_) (fun c182 => ?_)
                    · have t183 := t180 c182
                      clear t180 t181
                      have A184 := t183
                      rw [fO_wu hO0 (hu73.tr (hu141.tr hu165)) ⟨g1, t1⟩ (k := 1) (by decide) (by decide), fO_wu hO0 (hu73.tr (hu141.tr hu165)) ⟨g1, t1⟩ (k := 8) (by decide) (by decide), fO_wu hO0 (hu73.tr (hu141.tr hu165)) ⟨g1, t1⟩ (k := 2) (by decide) (by decide), fO_eA (fC_un hO0 (hu73.tr (hu141.tr hu165)) g2 t2 (k := 2) (by decide) (by decide)), fO_eA (fC_un hO0 (hu73.tr (hu141.tr hu165)) g2 t2 (k := 3) (by decide) (by decide)), fO_eA (fC_un hO0 (hu73.tr (hu141.tr hu165)) g2 t2 (k := 4) (by decide) (by decide)), fO_eA (fC_un hO0 (hu73.tr (hu141.tr hu165)) g2 t2 (k := 5) (by decide) (by decide)), show x173.toInt = x137.toInt - (cf h0 a2 a3.toInt + a4.toInt) by omega] at A184
                      refine ur_ldI rfl rfl ?_
                      refine ur_ldI rfl rfl ?_
                      refine ur_binV rfl (fun x185 e186 => ?_)
                      have t187 := ti_sub e186 (by omega) (by omega)
                      refine ur_ldI rfl rfl ?_
                      refine ur_ldI rfl rfl ?_
                      refine ur_callv rfl rfl (Nat.le_of_ble_eq_true rfl) (Nat.le_of_ble_eq_true rfl) rfl (sp_within _ _ _ _ _) ?_
                      refine ur_eqB rfl (fun c190 => ?_) (fun c190 => ?_)
                      · have t191 := wi_no c190
                        refine ur_incV (fun z => [some (.inr (.inr (some 8))), some (.inr (.inr (some a1))), some (.inr (.inr (some a2))), some (.inl a3), some (.inl a4), some (.inl a5), some (.inl a6), some (.inl x50), some (.inr (.inr (some r57))), some (.inl 0), some (.inl x135), some (.inl x136), some (.inl x66), some (.inl x119), some (.inl x132), some (.inl z)]) rfl rfl (fun _ => rfl) (fun x192 e193 => ?_)
                        have t194 := ti_add e193 (by omega) (by omega)
                        refine ur_go rfl ?_
                        have z195 := any_r x135
                        have z196 := any_r x136
                        have z197 := any_r x192
                        exact ih140 x135 x136 x192 _ hO178 (hu141.tr (hu165.tr hu178)) (by omega) (px142.k A184 (Or.inl (by show ¬ (_ ∧ _); omega)) (by omega)) (hp164.uk hO165 hO178 hv178 (by decide)) (by omega)
                      · have t198 := wi_to c190
                        refine ur_ldI rfl rfl ?_
                        refine ur_push rfl ?_
                        refine ur_if2 rfl (fun c199 => ?_) (fun c199 => ?_)
                        · have t200 := eq_to c199
                          refine ur_ldI rfl rfl ?_
                          refine ur_svIk [some (.inr (.inr (some 8))), some (.inr (.inr (some a1))), some (.inr (.inr (some a2))), some (.inl a3), some (.inl a4), some (.inl a5), some (.inl a6), some (.inl x50), some (.inr (.inr (some r57))), some (.inl 0), some (.inl x135), some (.inl x137), some (.inl x66), some (.inl x119), some (.inl x132), some (.inl x137)] rfl rfl ?_
                          refine ur_incV (fun z => [some (.inr (.inr (some 8))), some (.inr (.inr (some a1))), some (.inr (.inr (some a2))), some (.inl a3), some (.inl a4), some (.inl a5), some (.inl a6), some (.inl x50), some (.inr (.inr (some r57))), some (.inl 0), some (.inl x135), some (.inl x137), some (.inl x66), some (.inl x119), some (.inl x132), some (.inl z)]) rfl rfl (fun _ => rfl) (fun x201 e202 => ?_)
                          have t203 := ti_add e202 (by omega) (by omega)
                          refine ur_go rfl ?_
                          have z204 := any_r x135
                          have z205 := any_r x201
                          exact ih140 x135 x137 x201 _ hO178 (hu141.tr (hu165.tr hu178)) (by omega) (px142.y (by omega) (by unfold SPi; rw [← e112, ← e126]; omega) C171 A184 (by show _ ∧ _; omega) (by omega) (by omega) rfl) (hp164.uk hO165 hO178 hv178 (by decide)) (by omega)
                        · have t206 := eq_no c199
                          refine ur_ldI rfl rfl ?_
                          refine ur_ldI rfl rfl ?_
                          have z207 := any_r x136
                          refine ur_if2 rfl (fun c208 => ?_) (fun c208 => ?_)
                          · have t209 := le_to c208
                            refine ur_incV (fun z => [some (.inr (.inr (some 8))), some (.inr (.inr (some a1))), some (.inr (.inr (some a2))), some (.inl a3), some (.inl a4), some (.inl a5), some (.inl a6), some (.inl x50), some (.inr (.inr (some r57))), some (.inl 0), some (.inl x135), some (.inl x136), some (.inl x66), some (.inl x119), some (.inl x132), some (.inl z)]) rfl rfl (fun _ => rfl) (fun x210 e211 => ?_)
                            have t212 := ti_add e211 (by omega) (by omega)
                            refine ur_go rfl ?_
                            have z213 := any_r x135
                            have z214 := any_r x210
                            exact ih140 x135 x136 x210 _ hO178 (hu141.tr (hu165.tr hu178)) (by omega) (px142.k A184 (Or.inr (by omega)) (by omega)) (hp164.uk hO165 hO178 hv178 (by decide)) (by omega)
                          · have t215 := le_no c208
                            refine ur_ldI rfl rfl ?_
                            refine ur_svIk [some (.inr (.inr (some 8))), some (.inr (.inr (some a1))), some (.inr (.inr (some a2))), some (.inl a3), some (.inl a4), some (.inl a5), some (.inl a6), some (.inl x50), some (.inr (.inr (some r57))), some (.inl 0), some (.inl x135), some (.inl x137), some (.inl x66), some (.inl x119), some (.inl x132), some (.inl x137)] rfl rfl ?_
                            refine ur_incV (fun z => [some (.inr (.inr (some 8))), some (.inr (.inr (some a1))), some (.inr (.inr (some a2))), some (.inl a3), some (.inl a4), some (.inl a5), some (.inl a6), some (.inl x50), some (.inr (.inr (some r57))), some (.inl 0), some (.inl x135), some (.inl x137), some (.inl x66), some (.inl x119), some (.inl x132), some (.inl z)]) rfl rfl (fun _ => rfl) (fun x216 e217 => ?_)
                            have t218 := ti_add e217 (by omega) (by omega)
                            refine ur_go rfl ?_
                            have z219 := any_r x135
                            have z220 := any_r x216
                            exact ih140 x135 x137 x216 _ hO178 (hu141.tr (hu165.tr hu178)) (by omega) (px142.y (by omega) (by unfold SPi; rw [← e112, ← e126]; omega) C171 A184 (by show _ ∧ _; omega) (by omega) (by omega) rfl) (hp164.uk hO165 hO178 hv178 (by decide)) (by omega)
                    · have t221 := t181 c182
                      clear t180 t181
                      have A222 := t221
                      rw [fO_wu hO0 (hu73.tr (hu141.tr hu165)) ⟨g1, t1⟩ (k := 1) (by decide) (by decide), fO_wu hO0 (hu73.tr (hu141.tr hu165)) ⟨g1, t1⟩ (k := 8) (by decide) (by decide), fO_wu hO0 (hu73.tr (hu141.tr hu165)) ⟨g1, t1⟩ (k := 2) (by decide) (by decide), fO_eA (fC_un hO0 (hu73.tr (hu141.tr hu165)) g2 t2 (k := 2) (by decide) (by decide)), fO_eA (fC_un hO0 (hu73.tr (hu141.tr hu165)) g2 t2 (k := 3) (by decide) (by decide)), fO_eA (fC_un hO0 (hu73.tr (hu141.tr hu165)) g2 t2 (k := 4) (by decide) (by decide)), fO_eA (fC_un hO0 (hu73.tr (hu141.tr hu165)) g2 t2 (k := 5) (by decide) (by decide)), show x173.toInt = x137.toInt - (cf h0 a2 a3.toInt + a4.toInt) by omega] at A222
                      refine ur_push rfl ?_
                      refine ur_svIk [some (.inr (.inr (some 8))), some (.inr (.inr (some a1))), some (.inr (.inr (some a2))), some (.inl a3), some (.inl a4), some (.inl a5), some (.inl a6), some (.inl x50), some (.inr (.inr (some r57))), some (.inl 0), some (.inl 1), some (.inl x136), some (.inl x66), some (.inl x119), some (.inl x132), some (.inl x137)] rfl rfl ?_
                      refine ur_go rfl ?_
                      refine ur_incV (fun z => [some (.inr (.inr (some 8))), some (.inr (.inr (some a1))), some (.inr (.inr (some a2))), some (.inl a3), some (.inl a4), some (.inl a5), some (.inl a6), some (.inl x50), some (.inr (.inr (some r57))), some (.inl 0), some (.inl 1), some (.inl x136), some (.inl x66), some (.inl x119), some (.inl x132), some (.inl z)]) rfl rfl (fun _ => rfl) (fun x223 e224 => ?_)
                      have t225 := ti_add e224 (by omega) (by omega)
                      refine ur_go rfl ?_
                      have z226 := any_r x136
                      have z227 := any_r x223
                      exact ih140 1 x136 x223 _ hO178 (hu141.tr (hu165.tr hu178)) (by omega) (px142.u (by omega) (by unfold SPi; rw [← e112, ← e126]; omega) C171 A222 (by omega) (by omega)) (hp164.uk hO165 hO178 hv178 (by decide)) (by omega)
                  · have t228 := t168 c169
                    clear t167 t168
                    have C229 := t228
                    rw [fO_eA (fC_un hO0 (hu73.tr hu141) g2 t2 (k := 2) (by decide) (by decide)), fO_eA (fC_un hO0 (hu73.tr hu141) g2 t2 (k := 3) (by decide) (by decide)), fO_eA (fC_un hO0 (hu73.tr hu141) g2 t2 (k := 4) (by decide) (by decide)), fO_eA (fC_un hO0 (hu73.tr hu141) g2 t2 (k := 5) (by decide) (by decide)), cf_un hO0 (hu73.tr hu141) g2 t2 (by decide), show f5.toInt = fO h0 a1 2 by omega] at C229
                    refine ur_go rfl ?_
                    refine ur_incV (fun z => [some (.inr (.inr (some 8))), some (.inr (.inr (some a1))), some (.inr (.inr (some a2))), some (.inl a3), some (.inl a4), some (.inl a5), some (.inl a6), some (.inl x50), some (.inr (.inr (some r57))), some (.inl 0), some (.inl x135), some (.inl x136), some (.inl x66), some (.inl x119), some (.inl x132), some (.inl z)]) rfl rfl (fun _ => rfl) (fun x230 e231 => ?_)
                    have t232 := ti_add e231 (by omega) (by omega)
                    refine ur_go rfl ?_
                    have z233 := any_r x135
                    have z234 := any_r x136
                    have z235 := any_r x230
                    exact ih140 x135 x136 x230 _ hO165 (hu141.tr hu165) (by omega) (px142.nn C229 (by omega)) hp164 (by omega)
                · have t236 := eq_no c157
                  refine ur_ldI rfl rfl ?_
                  refine ur_push rfl ?_
                  refine ur_if2 rfl (fun c237 => ?_) (fun c237 => ?_)
                  · have t238 := eq_to c237
                    refine ur_ldA rfl rfl ?_
                    refine ur_ldA rfl rfl ?_
                    refine ur_ldA rfl rfl ?_
                    refine ur_get rfl (hu141.ko (n := 13) (hu73.ko (n := 13) hc2 rfl (wid_w g18) (by decide)) rfl (wid_w g18) (by decide)) rfl ?_
                    refine ur_ldI rfl rfl ?_
                    refine ur_ldI rfl rfl ?_
                    refine ur_ldI rfl rfl ?_
                    obtain ⟨f240, hc239, k241⟩ := ok_8 hO141
                    refine ur_inl rfl (rcv_of hc239) (Nat.le_of_ble_eq_true rfl) (Nat.le_of_ble_eq_true rfl) (sd_X5_seenOn hO141 g43 (hu141.tm (hu73.tm t2 (by decide)) (by decide)) _ (by show 0 ≤ f5.toInt ∧ f5.toInt ≤ 8; omega) _ (by show -60 ≤ a3.toInt ∧ a3.toInt ≤ 60; omega) _ (by show -1000000 ≤ a4.toInt ∧ a4.toInt ≤ 1000000; omega) _ (by show 0 ≤ x137.toInt ∧ x137.toInt ≤ 999999; omega) ((pre0.un hO0 hO73 hu73 (by decide)).un hO73 hO141 hu141 (by decide)) px143 (cz_un hO0 hO141 (hu73.tr hu141) pre2 (by decide) (by decide)) ((txC_un hO0 hO141 (hu73.tr hu141) (by decide) 9 (by decide)).trans pre3) pre4 (by rw [fO_eA (fC_un hO0 (hu73.tr hu141) g2 t2 (k := 8) (by decide) (by decide)), fO_eA (fC_un hO0 (hu73.tr hu141) g2 t2 (k := 9) (by decide) (by decide))]; exact pre10) (fun w242 h245 hr243 hO245 hv245 hp244 => ?_))
                    have hu245 := hv245
                    obtain ⟨b246, rfl, t247, t248⟩ := hr243
                    show uRun _ (uCall Mt _) _ 160 (_, [(.inl (bi b246))], _, _, _)
                    refine ur_neB rfl (fun c249 => ?_) (fun c249 => ?_)
                    · have t250 := t247 c249
                      clear t247 t248
                      have C251 := t250
                      rw [fO_eA (fC_un hO0 (hu73.tr hu141) g2 t2 (k := 2) (by decide) (by decide)), fO_eA (fC_un hO0 (hu73.tr hu141) g2 t2 (k := 3) (by decide) (by decide)), fO_eA (fC_un hO0 (hu73.tr hu141) g2 t2 (k := 4) (by decide) (by decide)), fO_eA (fC_un hO0 (hu73.tr hu141) g2 t2 (k := 5) (by decide) (by decide)), cf_un hO0 (hu73.tr hu141) g2 t2 (by decide), show f5.toInt = fO h0 a1 2 by omega] at C251
                      have tt252 := C251.1
                      refine ur_ldA rfl rfl ?_
                      refine ur_ldA rfl rfl ?_
                      refine ur_ldA rfl rfl ?_
                      refine ur_ldI rfl rfl ?_
                      refine ur_ldI rfl rfl ?_
                      refine ur_binV rfl (fun x253 e254 => ?_)
                      have t255 := ti_sub e254 (by omega) (by omega)
                      refine ur_ldI rfl rfl ?_
                      refine ur_inl rfl (rcv_of (hv245.ko (n := 5) hc239 rfl (wid_f (by decide)) (by decide))) (Nat.le_of_ble_eq_true rfl) (Nat.le_of_ble_eq_true rfl) (sd_X5_isAsSaid hO245 g18 (hu245.tm (hu141.tm (hu73.tm t1 (by decide)) (by decide)) (by decide)) g43 (hu245.tm (hu141.tm (hu73.tm t2 (by decide)) (by decide)) (by decide)) _ (by show -120 ≤ x253.toInt ∧ x253.toInt ≤ 120; omega) _ (by show 0 ≤ x137.toInt ∧ x137.toInt ≤ 999999; omega) (cd1.un hO0 (hu73.tr (hu141.tr hu245)) g2 t2 (by decide) (by decide)) ((txC_un hO0 hO245 (hu73.tr (hu141.tr hu245)) (by decide) 11 (by decide)).trans pre5) pre6 (by rw [fO_wu hO0 (hu73.tr (hu141.tr hu245)) ⟨g1, t1⟩ (k := 1) (by decide) (by decide), fO_wu hO0 (hu73.tr (hu141.tr hu245)) ⟨g1, t1⟩ (k := 8) (by decide) (by decide)]; exact ld22) (fun w256 h258 hr257 hO258 hv258 => ?_))
                      have hu258 : un [222, 223, 21212] h245 h258 := hv258.mono (by decide)
                      obtain ⟨b259, rfl, t260, t261⟩ := hr257
                      show uRun _ (uCall Mt _) _ 179 (_, [(.inl (bi b259))], _, _, _)
                      refine ur_neB rfl (fun c262 => ?_) (fun c262 => ?_)
                      · have t263 := t260 c262
                        clear t260 t261
                        have A264 := t263
                        rw [fO_wu hO0 (hu73.tr (hu141.tr hu245)) ⟨g1, t1⟩ (k := 1) (by decide) (by decide), fO_wu hO0 (hu73.tr (hu141.tr hu245)) ⟨g1, t1⟩ (k := 8) (by decide) (by decide), fO_wu hO0 (hu73.tr (hu141.tr hu245)) ⟨g1, t1⟩ (k := 2) (by decide) (by decide), fO_eA (fC_un hO0 (hu73.tr (hu141.tr hu245)) g2 t2 (k := 2) (by decide) (by decide)), fO_eA (fC_un hO0 (hu73.tr (hu141.tr hu245)) g2 t2 (k := 3) (by decide) (by decide)), fO_eA (fC_un hO0 (hu73.tr (hu141.tr hu245)) g2 t2 (k := 4) (by decide) (by decide)), fO_eA (fC_un hO0 (hu73.tr (hu141.tr hu245)) g2 t2 (k := 5) (by decide) (by decide)), show x253.toInt = x137.toInt - (cf h0 a2 a3.toInt + a4.toInt) by omega] at A264
                        refine ur_ldI rfl rfl ?_
                        refine ur_ldI rfl rfl ?_
                        refine ur_binV rfl (fun x265 e266 => ?_)
                        have t267 := ti_sub e266 (by omega) (by omega)
                        refine ur_ldI rfl rfl ?_
                        refine ur_ldI rfl rfl ?_
                        refine ur_callv rfl rfl (Nat.le_of_ble_eq_true rfl) (Nat.le_of_ble_eq_true rfl) rfl (sp_within _ _ _ _ _) ?_
                        refine ur_eqB rfl (fun c270 => ?_) (fun c270 => ?_)
                        · have t271 := wi_no c270
                          refine ur_incV (fun z => [some (.inr (.inr (some 8))), some (.inr (.inr (some a1))), some (.inr (.inr (some a2))), some (.inl a3), some (.inl a4), some (.inl a5), some (.inl a6), some (.inl x50), some (.inr (.inr (some r57))), some (.inl 0), some (.inl x135), some (.inl x136), some (.inl x66), some (.inl x119), some (.inl x132), some (.inl z)]) rfl rfl (fun _ => rfl) (fun x272 e273 => ?_)
                          have t274 := ti_add e273 (by omega) (by omega)
                          refine ur_go rfl ?_
                          have z275 := any_r x135
                          have z276 := any_r x136
                          have z277 := any_r x272
                          exact ih140 x135 x136 x272 _ hO258 (hu141.tr (hu245.tr hu258)) (by omega) (px142.k A264 (Or.inl (by show ¬ (_ ∧ _); omega)) (by omega)) (hp244.uk hO245 hO258 hv258 (by decide)) (by omega)
                        · have t278 := wi_to c270
                          refine ur_ldI rfl rfl ?_
                          refine ur_push rfl ?_
                          refine ur_if2 rfl (fun c279 => ?_) (fun c279 => ?_)
                          · have t280 := eq_to c279
                            refine ur_ldI rfl rfl ?_
                            refine ur_svIk [some (.inr (.inr (some 8))), some (.inr (.inr (some a1))), some (.inr (.inr (some a2))), some (.inl a3), some (.inl a4), some (.inl a5), some (.inl a6), some (.inl x50), some (.inr (.inr (some r57))), some (.inl 0), some (.inl x135), some (.inl x137), some (.inl x66), some (.inl x119), some (.inl x132), some (.inl x137)] rfl rfl ?_
                            refine ur_incV (fun z => [some (.inr (.inr (some 8))), some (.inr (.inr (some a1))), some (.inr (.inr (some a2))), some (.inl a3), some (.inl a4), some (.inl a5), some (.inl a6), some (.inl x50), some (.inr (.inr (some r57))), some (.inl 0), some (.inl x135), some (.inl x137), some (.inl x66), some (.inl x119), some (.inl x132), some (.inl z)]) rfl rfl (fun _ => rfl) (fun x281 e282 => ?_)
                            have t283 := ti_add e282 (by omega) (by omega)
                            refine ur_go rfl ?_
                            have z284 := any_r x135
                            have z285 := any_r x281
                            exact ih140 x135 x137 x281 _ hO258 (hu141.tr (hu245.tr hu258)) (by omega) (px142.y (by omega) (by unfold SPi; rw [← e112, ← e126]; omega) C251 A264 (by show _ ∧ _; omega) (by omega) (by omega) rfl) (hp244.uk hO245 hO258 hv258 (by decide)) (by omega)
                          · have t286 := eq_no c279
                            exfalso
                            omega
                      · have t287 := t261 c262
                        clear t260 t261
                        have A288 := t287
                        rw [fO_wu hO0 (hu73.tr (hu141.tr hu245)) ⟨g1, t1⟩ (k := 1) (by decide) (by decide), fO_wu hO0 (hu73.tr (hu141.tr hu245)) ⟨g1, t1⟩ (k := 8) (by decide) (by decide), fO_wu hO0 (hu73.tr (hu141.tr hu245)) ⟨g1, t1⟩ (k := 2) (by decide) (by decide), fO_eA (fC_un hO0 (hu73.tr (hu141.tr hu245)) g2 t2 (k := 2) (by decide) (by decide)), fO_eA (fC_un hO0 (hu73.tr (hu141.tr hu245)) g2 t2 (k := 3) (by decide) (by decide)), fO_eA (fC_un hO0 (hu73.tr (hu141.tr hu245)) g2 t2 (k := 4) (by decide) (by decide)), fO_eA (fC_un hO0 (hu73.tr (hu141.tr hu245)) g2 t2 (k := 5) (by decide) (by decide)), show x253.toInt = x137.toInt - (cf h0 a2 a3.toInt + a4.toInt) by omega] at A288
                        refine ur_push rfl ?_
                        refine ur_svIk [some (.inr (.inr (some 8))), some (.inr (.inr (some a1))), some (.inr (.inr (some a2))), some (.inl a3), some (.inl a4), some (.inl a5), some (.inl a6), some (.inl x50), some (.inr (.inr (some r57))), some (.inl 0), some (.inl 1), some (.inl x136), some (.inl x66), some (.inl x119), some (.inl x132), some (.inl x137)] rfl rfl ?_
                        refine ur_go rfl ?_
                        refine ur_incV (fun z => [some (.inr (.inr (some 8))), some (.inr (.inr (some a1))), some (.inr (.inr (some a2))), some (.inl a3), some (.inl a4), some (.inl a5), some (.inl a6), some (.inl x50), some (.inr (.inr (some r57))), some (.inl 0), some (.inl 1), some (.inl x136), some (.inl x66), some (.inl x119), some (.inl x132), some (.inl z)]) rfl rfl (fun _ => rfl) (fun x289 e290 => ?_)
                        have t291 := ti_add e290 (by omega) (by omega)
                        refine ur_go rfl ?_
                        have z292 := any_r x136
                        have z293 := any_r x289
                        exact ih140 1 x136 x289 _ hO258 (hu141.tr (hu245.tr hu258)) (by omega) (px142.u (by omega) (by unfold SPi; rw [← e112, ← e126]; omega) C251 A288 (by omega) (by omega)) (hp244.uk hO245 hO258 hv258 (by decide)) (by omega)
                    · have t294 := t248 c249
                      clear t247 t248
                      have C295 := t294
                      rw [fO_eA (fC_un hO0 (hu73.tr hu141) g2 t2 (k := 2) (by decide) (by decide)), fO_eA (fC_un hO0 (hu73.tr hu141) g2 t2 (k := 3) (by decide) (by decide)), fO_eA (fC_un hO0 (hu73.tr hu141) g2 t2 (k := 4) (by decide) (by decide)), fO_eA (fC_un hO0 (hu73.tr hu141) g2 t2 (k := 5) (by decide) (by decide)), cf_un hO0 (hu73.tr hu141) g2 t2 (by decide), show f5.toInt = fO h0 a1 2 by omega] at C295
                      refine ur_go rfl ?_
                      refine ur_incV (fun z => [some (.inr (.inr (some 8))), some (.inr (.inr (some a1))), some (.inr (.inr (some a2))), some (.inl a3), some (.inl a4), some (.inl a5), some (.inl a6), some (.inl x50), some (.inr (.inr (some r57))), some (.inl 0), some (.inl x135), some (.inl x136), some (.inl x66), some (.inl x119), some (.inl x132), some (.inl z)]) rfl rfl (fun _ => rfl) (fun x296 e297 => ?_)
                      have t298 := ti_add e297 (by omega) (by omega)
                      refine ur_go rfl ?_
                      have z299 := any_r x135
                      have z300 := any_r x136
                      have z301 := any_r x296
                      exact ih140 x135 x136 x296 _ hO245 (hu141.tr hu245) (by omega) (px142.nn C295 (by omega)) hp244 (by omega)
                  · have t302 := eq_no c237
                    refine ur_ldI rfl rfl ?_
                    refine ur_ldI rfl rfl ?_
                    have z303 := any_r x136
                    refine ur_if2 rfl (fun c304 => ?_) (fun c304 => ?_)
                    · have t305 := lt_to c304
                      refine ur_ldA rfl rfl ?_
                      refine ur_ldA rfl rfl ?_
                      refine ur_ldA rfl rfl ?_
                      refine ur_get rfl (hu141.ko (n := 13) (hu73.ko (n := 13) hc2 rfl (wid_w g18) (by decide)) rfl (wid_w g18) (by decide)) rfl ?_
                      refine ur_ldI rfl rfl ?_
                      refine ur_ldI rfl rfl ?_
                      refine ur_ldI rfl rfl ?_
                      obtain ⟨f307, hc306, k308⟩ := ok_8 hO141
                      refine ur_inl rfl (rcv_of hc306) (Nat.le_of_ble_eq_true rfl) (Nat.le_of_ble_eq_true rfl) (sd_X5_seenOn hO141 g43 (hu141.tm (hu73.tm t2 (by decide)) (by decide)) _ (by show 0 ≤ f5.toInt ∧ f5.toInt ≤ 8; omega) _ (by show -60 ≤ a3.toInt ∧ a3.toInt ≤ 60; omega) _ (by show -1000000 ≤ a4.toInt ∧ a4.toInt ≤ 1000000; omega) _ (by show 0 ≤ x137.toInt ∧ x137.toInt ≤ 999999; omega) ((pre0.un hO0 hO73 hu73 (by decide)).un hO73 hO141 hu141 (by decide)) px143 (cz_un hO0 hO141 (hu73.tr hu141) pre2 (by decide) (by decide)) ((txC_un hO0 hO141 (hu73.tr hu141) (by decide) 9 (by decide)).trans pre3) pre4 (by rw [fO_eA (fC_un hO0 (hu73.tr hu141) g2 t2 (k := 8) (by decide) (by decide)), fO_eA (fC_un hO0 (hu73.tr hu141) g2 t2 (k := 9) (by decide) (by decide))]; exact pre10) (fun w309 h312 hr310 hO312 hv312 hp311 => ?_))
                      have hu312 := hv312
                      obtain ⟨b313, rfl, t314, t315⟩ := hr310
                      show uRun _ (uCall Mt _) _ 160 (_, [(.inl (bi b313))], _, _, _)
                      refine ur_neB rfl (fun c316 => ?_) (fun c316 => ?_)
                      · have t317 := t314 c316
                        clear t314 t315
                        have C318 := t317
                        rw [fO_eA (fC_un hO0 (hu73.tr hu141) g2 t2 (k := 2) (by decide) (by decide)), fO_eA (fC_un hO0 (hu73.tr hu141) g2 t2 (k := 3) (by decide) (by decide)), fO_eA (fC_un hO0 (hu73.tr hu141) g2 t2 (k := 4) (by decide) (by decide)), fO_eA (fC_un hO0 (hu73.tr hu141) g2 t2 (k := 5) (by decide) (by decide)), cf_un hO0 (hu73.tr hu141) g2 t2 (by decide), show f5.toInt = fO h0 a1 2 by omega] at C318
                        have tt319 := C318.1
                        refine ur_ldA rfl rfl ?_
                        refine ur_ldA rfl rfl ?_
                        refine ur_ldA rfl rfl ?_
                        refine ur_ldI rfl rfl ?_
                        refine ur_ldI rfl rfl ?_
                        refine ur_binV rfl (fun x320 e321 => ?_)
                        have t322 := ti_sub e321 (by omega) (by omega)
                        refine ur_ldI rfl rfl ?_
                        refine ur_inl rfl (rcv_of (hv312.ko (n := 5) hc306 rfl (wid_f (by decide)) (by decide))) (Nat.le_of_ble_eq_true rfl) (Nat.le_of_ble_eq_true rfl) (sd_X5_isAsSaid hO312 g18 (hu312.tm (hu141.tm (hu73.tm t1 (by decide)) (by decide)) (by decide)) g43 (hu312.tm (hu141.tm (hu73.tm t2 (by decide)) (by decide)) (by decide)) _ (by show -120 ≤ x320.toInt ∧ x320.toInt ≤ 120; omega) _ (by show 0 ≤ x137.toInt ∧ x137.toInt ≤ 999999; omega) (cd1.un hO0 (hu73.tr (hu141.tr hu312)) g2 t2 (by decide) (by decide)) ((txC_un hO0 hO312 (hu73.tr (hu141.tr hu312)) (by decide) 11 (by decide)).trans pre5) pre6 (by rw [fO_wu hO0 (hu73.tr (hu141.tr hu312)) ⟨g1, t1⟩ (k := 1) (by decide) (by decide), fO_wu hO0 (hu73.tr (hu141.tr hu312)) ⟨g1, t1⟩ (k := 8) (by decide) (by decide)]; exact ld22) (fun w323 h325 hr324 hO325 hv325 => ?_))
                        have hu325 : un [222, 223, 21212] h312 h325 := hv325.mono (by decide)
                        obtain ⟨b326, rfl, t327, t328⟩ := hr324
                        show uRun _ (uCall Mt _) _ 179 (_, [(.inl (bi b326))], _, _, _)
                        refine ur_neB rfl (fun c329 => ?_) (fun c329 => ?_)
                        · have t330 := t327 c329
                          clear t327 t328
                          have A331 := t330
                          rw [fO_wu hO0 (hu73.tr (hu141.tr hu312)) ⟨g1, t1⟩ (k := 1) (by decide) (by decide), fO_wu hO0 (hu73.tr (hu141.tr hu312)) ⟨g1, t1⟩ (k := 8) (by decide) (by decide), fO_wu hO0 (hu73.tr (hu141.tr hu312)) ⟨g1, t1⟩ (k := 2) (by decide) (by decide), fO_eA (fC_un hO0 (hu73.tr (hu141.tr hu312)) g2 t2 (k := 2) (by decide) (by decide)), fO_eA (fC_un hO0 (hu73.tr (hu141.tr hu312)) g2 t2 (k := 3) (by decide) (by decide)), fO_eA (fC_un hO0 (hu73.tr (hu141.tr hu312)) g2 t2 (k := 4) (by decide) (by decide)), fO_eA (fC_un hO0 (hu73.tr (hu141.tr hu312)) g2 t2 (k := 5) (by decide) (by decide)), show x320.toInt = x137.toInt - (cf h0 a2 a3.toInt + a4.toInt) by omega] at A331
                          refine ur_ldI rfl rfl ?_
                          refine ur_ldI rfl rfl ?_
                          refine ur_binV rfl (fun x332 e333 => ?_)
                          have t334 := ti_sub e333 (by omega) (by omega)
                          refine ur_ldI rfl rfl ?_
                          refine ur_ldI rfl rfl ?_
                          refine ur_callv rfl rfl (Nat.le_of_ble_eq_true rfl) (Nat.le_of_ble_eq_true rfl) rfl (sp_within _ _ _ _ _) ?_
                          refine ur_eqB rfl (fun c337 => ?_) (fun c337 => ?_)
                          · have t338 := wi_no c337
                            refine ur_incV (fun z => [some (.inr (.inr (some 8))), some (.inr (.inr (some a1))), some (.inr (.inr (some a2))), some (.inl a3), some (.inl a4), some (.inl a5), some (.inl a6), some (.inl x50), some (.inr (.inr (some r57))), some (.inl 0), some (.inl x135), some (.inl x136), some (.inl x66), some (.inl x119), some (.inl x132), some (.inl z)]) rfl rfl (fun _ => rfl) (fun x339 e340 => ?_)
                            have t341 := ti_add e340 (by omega) (by omega)
                            refine ur_go rfl ?_
                            have z342 := any_r x135
                            have z343 := any_r x339
                            exact ih140 x135 x136 x339 _ hO325 (hu141.tr (hu312.tr hu325)) (by omega) (px142.k A331 (Or.inl (by show ¬ (_ ∧ _); omega)) (by omega)) (hp311.uk hO312 hO325 hv325 (by decide)) (by omega)
                          · have t344 := wi_to c337
                            refine ur_ldI rfl rfl ?_
                            refine ur_push rfl ?_
                            refine ur_if2 rfl (fun c345 => ?_) (fun c345 => ?_)
                            · have t346 := eq_to c345
                              exfalso
                              omega
                            · have t347 := eq_no c345
                              refine ur_ldI rfl rfl ?_
                              refine ur_ldI rfl rfl ?_
                              refine ur_if2 rfl (fun c348 => ?_) (fun c348 => ?_)
                              · have t349 := le_to c348
                                refine ur_incV (fun z => [some (.inr (.inr (some 8))), some (.inr (.inr (some a1))), some (.inr (.inr (some a2))), some (.inl a3), some (.inl a4), some (.inl a5), some (.inl a6), some (.inl x50), some (.inr (.inr (some r57))), some (.inl 0), some (.inl x135), some (.inl x136), some (.inl x66), some (.inl x119), some (.inl x132), some (.inl z)]) rfl rfl (fun _ => rfl) (fun x350 e351 => ?_)
                                have t352 := ti_add e351 (by omega) (by omega)
                                refine ur_go rfl ?_
                                have z353 := any_r x135
                                have z354 := any_r x350
                                exact ih140 x135 x136 x350 _ hO325 (hu141.tr (hu312.tr hu325)) (by omega) (px142.k A331 (Or.inr (by omega)) (by omega)) (hp311.uk hO312 hO325 hv325 (by decide)) (by omega)
                              · have t355 := le_no c348
                                refine ur_ldI rfl rfl ?_
                                refine ur_svIk [some (.inr (.inr (some 8))), some (.inr (.inr (some a1))), some (.inr (.inr (some a2))), some (.inl a3), some (.inl a4), some (.inl a5), some (.inl a6), some (.inl x50), some (.inr (.inr (some r57))), some (.inl 0), some (.inl x135), some (.inl x137), some (.inl x66), some (.inl x119), some (.inl x132), some (.inl x137)] rfl rfl ?_
                                refine ur_incV (fun z => [some (.inr (.inr (some 8))), some (.inr (.inr (some a1))), some (.inr (.inr (some a2))), some (.inl a3), some (.inl a4), some (.inl a5), some (.inl a6), some (.inl x50), some (.inr (.inr (some r57))), some (.inl 0), some (.inl x135), some (.inl x137), some (.inl x66), some (.inl x119), some (.inl x132), some (.inl z)]) rfl rfl (fun _ => rfl) (fun x356 e357 => ?_)
                                have t358 := ti_add e357 (by omega) (by omega)
                                refine ur_go rfl ?_
                                have z359 := any_r x135
                                have z360 := any_r x356
                                exact ih140 x135 x137 x356 _ hO325 (hu141.tr (hu312.tr hu325)) (by omega) (px142.y (by omega) (by unfold SPi; rw [← e112, ← e126]; omega) C318 A331 (by show _ ∧ _; omega) (by omega) (by omega) rfl) (hp311.uk hO312 hO325 hv325 (by decide)) (by omega)
                        · have t361 := t328 c329
                          clear t327 t328
                          have A362 := t361
                          rw [fO_wu hO0 (hu73.tr (hu141.tr hu312)) ⟨g1, t1⟩ (k := 1) (by decide) (by decide), fO_wu hO0 (hu73.tr (hu141.tr hu312)) ⟨g1, t1⟩ (k := 8) (by decide) (by decide), fO_wu hO0 (hu73.tr (hu141.tr hu312)) ⟨g1, t1⟩ (k := 2) (by decide) (by decide), fO_eA (fC_un hO0 (hu73.tr (hu141.tr hu312)) g2 t2 (k := 2) (by decide) (by decide)), fO_eA (fC_un hO0 (hu73.tr (hu141.tr hu312)) g2 t2 (k := 3) (by decide) (by decide)), fO_eA (fC_un hO0 (hu73.tr (hu141.tr hu312)) g2 t2 (k := 4) (by decide) (by decide)), fO_eA (fC_un hO0 (hu73.tr (hu141.tr hu312)) g2 t2 (k := 5) (by decide) (by decide)), show x320.toInt = x137.toInt - (cf h0 a2 a3.toInt + a4.toInt) by omega] at A362
                          refine ur_push rfl ?_
                          refine ur_svIk [some (.inr (.inr (some 8))), some (.inr (.inr (some a1))), some (.inr (.inr (some a2))), some (.inl a3), some (.inl a4), some (.inl a5), some (.inl a6), some (.inl x50), some (.inr (.inr (some r57))), some (.inl 0), some (.inl 1), some (.inl x136), some (.inl x66), some (.inl x119), some (.inl x132), some (.inl x137)] rfl rfl ?_
                          refine ur_go rfl ?_
                          refine ur_incV (fun z => [some (.inr (.inr (some 8))), some (.inr (.inr (some a1))), some (.inr (.inr (some a2))), some (.inl a3), some (.inl a4), some (.inl a5), some (.inl a6), some (.inl x50), some (.inr (.inr (some r57))), some (.inl 0), some (.inl 1), some (.inl x136), some (.inl x66), some (.inl x119), some (.inl x132), some (.inl z)]) rfl rfl (fun _ => rfl) (fun x363 e364 => ?_)
                          have t365 := ti_add e364 (by omega) (by omega)
                          refine ur_go rfl ?_
                          have z366 := any_r x363
                          exact ih140 1 x136 x363 _ hO325 (hu141.tr (hu312.tr hu325)) (by omega) (px142.u (by omega) (by unfold SPi; rw [← e112, ← e126]; omega) C318 A362 (by omega) (by omega)) (hp311.uk hO312 hO325 hv325 (by decide)) (by omega)
                      · have t367 := t315 c316
                        clear t314 t315
                        have C368 := t367
                        rw [fO_eA (fC_un hO0 (hu73.tr hu141) g2 t2 (k := 2) (by decide) (by decide)), fO_eA (fC_un hO0 (hu73.tr hu141) g2 t2 (k := 3) (by decide) (by decide)), fO_eA (fC_un hO0 (hu73.tr hu141) g2 t2 (k := 4) (by decide) (by decide)), fO_eA (fC_un hO0 (hu73.tr hu141) g2 t2 (k := 5) (by decide) (by decide)), cf_un hO0 (hu73.tr hu141) g2 t2 (by decide), show f5.toInt = fO h0 a1 2 by omega] at C368
                        refine ur_go rfl ?_
                        refine ur_incV (fun z => [some (.inr (.inr (some 8))), some (.inr (.inr (some a1))), some (.inr (.inr (some a2))), some (.inl a3), some (.inl a4), some (.inl a5), some (.inl a6), some (.inl x50), some (.inr (.inr (some r57))), some (.inl 0), some (.inl x135), some (.inl x136), some (.inl x66), some (.inl x119), some (.inl x132), some (.inl z)]) rfl rfl (fun _ => rfl) (fun x369 e370 => ?_)
                        have t371 := ti_add e370 (by omega) (by omega)
                        refine ur_go rfl ?_
                        have z372 := any_r x135
                        have z373 := any_r x369
                        exact ih140 x135 x136 x369 _ hO312 (hu141.tr hu312) (by omega) (px142.nn C368 (by omega)) hp311 (by omega)
                    · have t374 := lt_no c304
                      refine ur_go rfl ?_
                      refine ur_incV (fun z => [some (.inr (.inr (some 8))), some (.inr (.inr (some a1))), some (.inr (.inr (some a2))), some (.inl a3), some (.inl a4), some (.inl a5), some (.inl a6), some (.inl x50), some (.inr (.inr (some r57))), some (.inl 0), some (.inl x135), some (.inl x136), some (.inl z), some (.inl x119), some (.inl x132), some (.inl x137)]) rfl rfl (fun _ => rfl) (fun x375 e376 => ?_)
                      have t377 := ti_add e376 (by omega) (by omega)
                      refine ur_go rfl ?_
                      have z378 := any_r x135
                      have z379 := any_r x375
                      exact ih72 x135 x136 x375 _ _ _ _ hO141 (hu73.tr hu141) (by omega) (px142.o (fun d q _ => Or.inr (by omega)) (fun q => by exfalso; omega) (by omega) rfl) px143 (by omega)
          have z380 := any_r x119
          have z381 := any_r x65
          have z382 := any_r x64
          exact L138 _ x64 x65 x119 _ hO73 un.rf (by omega) (px74.i (fun d q p => fun k => by have k1 := k.1.1; have k2 : a5.toInt ≤ d - (cf h0 a2 a3.toInt + a4.toInt) ∧ d - (cf h0 a2 a3.toInt + a4.toInt) ≤ a6.toInt := k.2.2; unfold SPi at q; rw [← e112, ← e126] at q; omega) (fun q d s9 p k => by have z9 := (px74.2.2 q).1; have k1 := k.1; unfold SPi at s9; rw [← e112, ← e126] at s9; omega)) px75 (Nat.lt_succ_self _)
    exact L70 _ 1 (-1) 0 (none) (none) (none) _ hO0 un.rf (by omega) (FIq.z (by omega) (by omega) rfl (by omega)) pre1 (Nat.lt_succ_self _)
  · have t383 := ne_no c62
    refine ur_push rfl ?_
    refine ur_go rfl ?_
    refine ur_svIk [some (.inr (.inr (some 8))), some (.inr (.inr (some a1))), some (.inr (.inr (some a2))), some (.inl a3), some (.inl a4), some (.inl a5), some (.inl a6), some (.inl x50), some (.inr (.inr (some r57))), some (.inl 1), none, none, none, none, none, none] rfl rfl ?_
    refine ur_ldI rfl rfl ?_
    refine ur_if1t rfl (by decide) ?_
    refine ur_push rfl ?_
    refine ur_svIk [some (.inr (.inr (some 8))), some (.inr (.inr (some a1))), some (.inr (.inr (some a2))), some (.inl a3), some (.inl a4), some (.inl a5), some (.inl a6), some (.inl x50), some (.inr (.inr (some r57))), some (.inl 1), some (.inl 0), none, none, none, none, none] rfl rfl ?_
    refine ur_push rfl ?_
    refine ur_svIk [some (.inr (.inr (some 8))), some (.inr (.inr (some a1))), some (.inr (.inr (some a2))), some (.inl a3), some (.inl a4), some (.inl a5), some (.inl a6), some (.inl x50), some (.inr (.inr (some r57))), some (.inl 1), some (.inl 0), some (.inl (-1)), none, none, none, none] rfl rfl ?_
    refine ur_push rfl ?_
    refine ur_svIk [some (.inr (.inr (some 8))), some (.inr (.inr (some a1))), some (.inr (.inr (some a2))), some (.inl a3), some (.inl a4), some (.inl a5), some (.inl a6), some (.inl x50), some (.inr (.inr (some r57))), some (.inl 1), some (.inl 0), some (.inl (-1)), some (.inl 0), none, none, none] rfl rfl ?_
    have L390 : ∀ (m391 : Nat) (x384 : Int32) (x385 : Int32) (x386 : Int32) (u387 : Option aV) (u388 : Option aV) (u389 : Option aV) (h393 : aH) , OK h393 → un [222, 223, 21212] h0 h393 → ((0 ≤ x386.toInt ∧ x386.toInt ≤ 2) ∧ (-1 ≤ x385.toInt ∧ x385.toInt ≤ 999999) ∧ (0 ≤ x384.toInt ∧ x384.toInt ≤ 1) ∧ x386.toInt ≤ fO h0 r57 10) → (FIq (fO h0 r57 10) (VC h0 r57) (fO h0 r57 4) (fun d => canP ls (fO h0 a2 2) (fO h0 a2 4) (fO h0 a2 3) (fO h0 a2 5) (fO h0 a1 2) (cf h0 a2 a3.toInt + a4.toInt) d) (fun d => asP l1 (fO h0 a1 1) (fO h0 a1 8) (fO h0 a1 2) (fO h0 a2 2) (fO h0 a2 4) (fO h0 a2 3) (fO h0 a2 5) (d - (cf h0 a2 a3.toInt + a4.toInt)) d) (fun d => a5.toInt ≤ d - (cf h0 a2 a3.toInt + a4.toInt) ∧ d - (cf h0 a2 a3.toInt + a4.toInt) ≤ a6.toInt) (fO h0 a1 1) x386.toInt 0 x385.toInt x384.toInt) → (SGc ls h393) → ((3 - x386.toInt).toNat) < m391 → uRun oX5_fitDay (uCall Mt (d + 5)) Q 50 ([some (.inr (.inr (some 8))), some (.inr (.inr (some a1))), some (.inr (.inr (some a2))), some (.inl a3), some (.inl a4), some (.inl a5), some (.inl a6), some (.inl x50), some (.inr (.inr (some r57))), some (.inl 1), some (.inl x384), some (.inl x385), some (.inl x386), u387, u388, u389], [], h393, kc, ks) := by
      intro m391
      induction m391 with
      | zero => intro x384 x385 x386 u387 u388 u389 h393 hO393 hu393 iv396 px394 px395 mm397; omega
      | succ m391 ih392 =>
        intro x384 x385 x386 u387 u388 u389 h393 hO393 hu393 iv396 px394 px395 mm397
        have tt398 : fO h393 r57 4 = fO h0 r57 4 := fO_wu hO0 hu393 ⟨k58.1, k58.2⟩ (by decide) (by decide)
        have tt399 : fO h393 r57 10 = fO h0 r57 10 := fO_wu hO0 hu393 ⟨k58.1, k58.2⟩ (by decide) (by decide)
        have tt400 : fO h393 r57 11 = fO h0 r57 11 := fO_wu hO0 hu393 ⟨k58.1, k58.2⟩ (by decide) (by decide)
        have tt401 : fO h393 r57 12 = fO h0 r57 12 := fO_wu hO0 hu393 ⟨k58.1, k58.2⟩ (by decide) (by decide)
        obtain ⟨g418, f403, f404, f405, f406, f407, f408, f409, f410, f411, o415, f412, f413, f414, hc402, k416, k417⟩ := hO393.word (hu393.tm k58.2 (by decide))
        have tt419 := fO_of (k := 10) hc402 rfl
        refine ur_ldI rfl rfl ?_
        refine ur_ldA rfl rfl ?_
        refine ur_get rfl hc402 rfl ?_
        have z420 := any_r x386
        have z421 := any_r f412
        refine ur_if2 rfl (fun c422 => ?_) (fun c422 => ?_)
        · have t423 := le_to c422
          refine ur_ldI rfl rfl ?_
          refine ur_if1 rfl (fun c424 => ?_) (fun c424 => ?_)
          · have t425 := eq_to c424
            refine ur_push rfl ?_
            exact ur_ret rfl rfl (hQ _ _ ⟨_, rfl, ⟨⟨r57, f59, (px394.e (by omega) (by omega))⟩, by omega⟩⟩ hO393 hu393 px395)
          · have t426 := eq_no c424
            refine ur_ldI rfl rfl ?_
            refine ur_go rfl ?_
            exact ur_ret rfl rfl (hQ _ _ ⟨_, rfl, ⟨⟨r57, f59, (px394.e (by omega) (by omega))⟩, by omega⟩⟩ hO393 hu393 px395)
        · have t427 := le_no c422
          refine ur_ldA rfl rfl ?_
          refine ur_ldI rfl rfl ?_
          refine ur_inl rfl (rcv_of hc402) (Nat.le_of_ble_eq_true rfl) (Nat.le_of_ble_eq_true rfl) (st_X10_spanFrom hO393 g418 (hu393.tm k58.2 (by decide)) _ (by omega) (fun w428 hr429 => ?_))
          obtain ⟨x430, rfl, f431⟩ := hr429
          show uRun _ (uCall Mt _) _ 67 (_, [(.inl x430)], _, _, _)
          have e432 : x430.toInt = spF (VC h0 r57 x386.toInt) (fO h0 r57 4) := by have q := f431; rw [fO_wu hO0 hu393 ⟨k58.1, k58.2⟩ (k := 4) (by decide) (by decide), fO_wu hO0 hu393 ⟨k58.1, k58.2⟩ (k := 11) (by decide) (by decide), fO_wu hO0 hu393 ⟨k58.1, k58.2⟩ (k := 12) (by decide) (by decide)] at q; exact q
          have tt433 := spF_b (VC_b mv60 (i := x386.toInt) (by omega) (by omega))
          refine ur_ldI rfl rfl ?_
          refine ur_ldI rfl rfl ?_
          refine ur_if1f rfl (by decide) ?_
          refine ur_push rfl ?_
          refine ur_go rfl ?_
          refine ur_binV rfl (fun x434 e435 => ?_)
          have z436 := any_r x50
          have t437 := ti_add e435 (by omega) (by omega)
          refine ur_maxV rfl (by show ¬ 9 ≤ 2; decide) (fun x438 t439 e440 => ?_)
          refine ur_svIk [some (.inr (.inr (some 8))), some (.inr (.inr (some a1))), some (.inr (.inr (some a2))), some (.inl a3), some (.inl a4), some (.inl a5), some (.inl a6), some (.inl x50), some (.inr (.inr (some r57))), some (.inl 1), some (.inl x384), some (.inl x385), some (.inl x386), some (.inl x438), u388, u389] rfl rfl ?_
          refine ur_ldA rfl rfl ?_
          refine ur_ldI rfl rfl ?_
          refine ur_inl rfl (rcv_of hc402) (Nat.le_of_ble_eq_true rfl) (Nat.le_of_ble_eq_true rfl) (st_X10_spanTo hO393 g418 (hu393.tm k58.2 (by decide)) _ (by omega) (fun w441 hr442 => ?_))
          obtain ⟨x443, rfl, f444⟩ := hr442
          show uRun _ (uCall Mt _) _ 94 (_, [(.inl x443)], _, _, _)
          have e445 : x443.toInt = spT (VC h0 r57 x386.toInt) (fO h0 r57 4) := by have q := f444; rw [fO_wu hO0 hu393 ⟨k58.1, k58.2⟩ (k := 4) (by decide) (by decide), fO_wu hO0 hu393 ⟨k58.1, k58.2⟩ (k := 11) (by decide) (by decide), fO_wu hO0 hu393 ⟨k58.1, k58.2⟩ (k := 12) (by decide) (by decide)] at q; exact q
          have tt446 := spT_b (VC_b mv60 (i := x386.toInt) (by omega) (by omega))
          refine ur_ldI rfl rfl ?_
          refine ur_ldI rfl rfl ?_
          refine ur_if1f rfl (by decide) ?_
          refine ur_push rfl ?_
          refine ur_go rfl ?_
          refine ur_binV rfl (fun x447 e448 => ?_)
          have t449 := ti_add e448 (by omega) (by omega)
          refine ur_minV rfl (by show ¬ 9 ≤ 2; decide) (fun x450 t451 e452 => ?_)
          refine ur_svIk [some (.inr (.inr (some 8))), some (.inr (.inr (some a1))), some (.inr (.inr (some a2))), some (.inl a3), some (.inl a4), some (.inl a5), some (.inl a6), some (.inl x50), some (.inr (.inr (some r57))), some (.inl 1), some (.inl x384), some (.inl x385), some (.inl x386), some (.inl x438), some (.inl x450), u389] rfl rfl ?_
          refine ur_ldI rfl rfl ?_
          refine ur_svIk [some (.inr (.inr (some 8))), some (.inr (.inr (some a1))), some (.inr (.inr (some a2))), some (.inl a3), some (.inl a4), some (.inl a5), some (.inl a6), some (.inl x50), some (.inr (.inr (some r57))), some (.inl 1), some (.inl x384), some (.inl x385), some (.inl x386), some (.inl x438), some (.inl x450), some (.inl x438)] rfl rfl ?_
          have L456 : ∀ (m457 : Nat) (x453 : Int32) (x454 : Int32) (x455 : Int32) (h459 : aH) , OK h459 → un [222, 223, 21212] h393 h459 → ((0 ≤ x455.toInt ∧ x455.toInt ≤ 2100000) ∧ (-1 ≤ x454.toInt ∧ x454.toInt ≤ 999999) ∧ (0 ≤ x453.toInt ∧ x453.toInt ≤ 1) ∧ x438.toInt ≤ x455.toInt) → (FIq (fO h0 r57 10) (VC h0 r57) (fO h0 r57 4) (fun d => canP ls (fO h0 a2 2) (fO h0 a2 4) (fO h0 a2 3) (fO h0 a2 5) (fO h0 a1 2) (cf h0 a2 a3.toInt + a4.toInt) d) (fun d => asP l1 (fO h0 a1 1) (fO h0 a1 8) (fO h0 a1 2) (fO h0 a2 2) (fO h0 a2 4) (fO h0 a2 3) (fO h0 a2 5) (d - (cf h0 a2 a3.toInt + a4.toInt)) d) (fun d => a5.toInt ≤ d - (cf h0 a2 a3.toInt + a4.toInt) ∧ d - (cf h0 a2 a3.toInt + a4.toInt) ≤ a6.toInt) (fO h0 a1 1) x386.toInt x455.toInt x454.toInt x453.toInt) → (SGc ls h459) → ((2100001 - x455.toInt).toNat) < m457 → uRun oX5_fitDay (uCall Mt (d + 5)) Q 118 ([some (.inr (.inr (some 8))), some (.inr (.inr (some a1))), some (.inr (.inr (some a2))), some (.inl a3), some (.inl a4), some (.inl a5), some (.inl a6), some (.inl x50), some (.inr (.inr (some r57))), some (.inl 1), some (.inl x453), some (.inl x454), some (.inl x386), some (.inl x438), some (.inl x450), some (.inl x455)], [], h459, kc, ks) := by
            intro m457
            induction m457 with
            | zero => intro x453 x454 x455 h459 hO459 hu459 iv462 px460 px461 mm463; omega
            | succ m457 ih458 =>
              intro x453 x454 x455 h459 hO459 hu459 iv462 px460 px461 mm463
              refine ur_ldI rfl rfl ?_
              refine ur_ldI rfl rfl ?_
              have z464 := any_r x455
              have z465 := any_r x450
              refine ur_if2 rfl (fun c466 => ?_) (fun c466 => ?_)
              · have t467 := lt_to c466
                refine ur_incV (fun z => [some (.inr (.inr (some 8))), some (.inr (.inr (some a1))), some (.inr (.inr (some a2))), some (.inl a3), some (.inl a4), some (.inl a5), some (.inl a6), some (.inl x50), some (.inr (.inr (some r57))), some (.inl 1), some (.inl x453), some (.inl x454), some (.inl z), some (.inl x438), some (.inl x450), some (.inl x455)]) rfl rfl (fun _ => rfl) (fun x468 e469 => ?_)
                have t470 := ti_add e469 (by omega) (by omega)
                refine ur_go rfl ?_
                have z471 := any_r x453
                have z472 := any_r x454
                have z473 := any_r x468
                exact ih392 x453 x454 x468 _ _ _ _ hO459 (hu393.tr hu459) (by omega) (px460.o (fun d q p => Or.inl (fun k => by have k1 := k.1.1; have k2 : a5.toInt ≤ d - (cf h0 a2 a3.toInt + a4.toInt) ∧ d - (cf h0 a2 a3.toInt + a4.toInt) ≤ a6.toInt := k.2.2; unfold SPi at q; rw [← e432, ← e445] at q; omega)) (fun q d s9 p k => by have z9 := (px460.2.2 q).1; have k1 := k.1; unfold SPi at s9; rw [← e432, ← e445] at s9; omega) (by omega) rfl) px461 (by omega)
              · have t474 := lt_no c466
                refine ur_ldI rfl rfl ?_
                refine ur_if1 rfl (fun c475 => ?_) (fun c475 => ?_)
                · have t476 := eq_to c475
                  refine ur_ldA rfl rfl ?_
                  refine ur_ldA rfl rfl ?_
                  refine ur_ldA rfl rfl ?_
                  refine ur_get rfl (hu459.ko (n := 13) (hu393.ko (n := 13) hc2 rfl (wid_w g18) (by decide)) rfl (wid_w g18) (by decide)) rfl ?_
                  refine ur_ldI rfl rfl ?_
                  refine ur_ldI rfl rfl ?_
                  refine ur_ldI rfl rfl ?_
                  obtain ⟨f478, hc477, k479⟩ := ok_8 hO459
                  refine ur_inl rfl (rcv_of hc477) (Nat.le_of_ble_eq_true rfl) (Nat.le_of_ble_eq_true rfl) (sd_X5_seenOn hO459 g43 (hu459.tm (hu393.tm t2 (by decide)) (by decide)) _ (by show 0 ≤ f5.toInt ∧ f5.toInt ≤ 8; omega) _ (by show -60 ≤ a3.toInt ∧ a3.toInt ≤ 60; omega) _ (by show -1000000 ≤ a4.toInt ∧ a4.toInt ≤ 1000000; omega) _ (by show 0 ≤ x455.toInt ∧ x455.toInt ≤ 999999; omega) ((pre0.un hO0 hO393 hu393 (by decide)).un hO393 hO459 hu459 (by decide)) px461 (cz_un hO0 hO459 (hu393.tr hu459) pre2 (by decide) (by decide)) ((txC_un hO0 hO459 (hu393.tr hu459) (by decide) 9 (by decide)).trans pre3) pre4 (by rw [fO_eA (fC_un hO0 (hu393.tr hu459) g2 t2 (k := 8) (by decide) (by decide)), fO_eA (fC_un hO0 (hu393.tr hu459) g2 t2 (k := 9) (by decide) (by decide))]; exact pre10) (fun w480 h483 hr481 hO483 hv483 hp482 => ?_))
                  have hu483 := hv483
                  obtain ⟨b484, rfl, t485, t486⟩ := hr481
                  show uRun _ (uCall Mt _) _ 160 (_, [(.inl (bi b484))], _, _, _)
                  refine ur_neB rfl (fun c487 => ?_) (fun c487 => ?_)
                  · have t488 := t485 c487
                    clear t485 t486
                    have C489 := t488
                    rw [fO_eA (fC_un hO0 (hu393.tr hu459) g2 t2 (k := 2) (by decide) (by decide)), fO_eA (fC_un hO0 (hu393.tr hu459) g2 t2 (k := 3) (by decide) (by decide)), fO_eA (fC_un hO0 (hu393.tr hu459) g2 t2 (k := 4) (by decide) (by decide)), fO_eA (fC_un hO0 (hu393.tr hu459) g2 t2 (k := 5) (by decide) (by decide)), cf_un hO0 (hu393.tr hu459) g2 t2 (by decide), show f5.toInt = fO h0 a1 2 by omega] at C489
                    have tt490 := C489.1
                    refine ur_ldA rfl rfl ?_
                    refine ur_ldA rfl rfl ?_
                    refine ur_ldA rfl rfl ?_
                    refine ur_ldI rfl rfl ?_
                    refine ur_ldI rfl rfl ?_
                    refine ur_binV rfl (fun x491 e492 => ?_)
                    have t493 := ti_sub e492 (by omega) (by omega)
                    refine ur_ldI rfl rfl ?_
                    refine ur_inl rfl (rcv_of (hv483.ko (n := 5) hc477 rfl (wid_f (by decide)) (by decide))) (Nat.le_of_ble_eq_true rfl) (Nat.le_of_ble_eq_true rfl) (sd_X5_isAsSaid hO483 g18 (hu483.tm (hu459.tm (hu393.tm t1 (by decide)) (by decide)) (by decide)) g43 (hu483.tm (hu459.tm (hu393.tm t2 (by decide)) (by decide)) (by decide)) _ (by show -120 ≤ x491.toInt ∧ x491.toInt ≤ 120; omega) _ (by show 0 ≤ x455.toInt ∧ x455.toInt ≤ 999999; omega) (cd1.un hO0 (hu393.tr (hu459.tr hu483)) g2 t2 (by decide) (by decide)) ((txC_un hO0 hO483 (hu393.tr (hu459.tr hu483)) (by decide) 11 (by decide)).trans pre5) pre6 (by rw [fO_wu hO0 (hu393.tr (hu459.tr hu483)) ⟨g1, t1⟩ (k := 1) (by decide) (by decide), fO_wu hO0 (hu393.tr (hu459.tr hu483)) ⟨g1, t1⟩ (k := 8) (by decide) (by decide)]; exact ld22) (fun w494 h496 hr495 hO496 hv496 => ?_))
                    have hu496 : un [222, 223, 21212] h483 h496 := hv496.mono (by decide)
                    obtain ⟨b497, rfl, t498, t499⟩ := hr495
                    show uRun _ (uCall Mt _) _ 179 (_, [(.inl (bi b497))], _, _, _)
                    refine ur_neB rfl (fun c500 => ?_) (fun c500 => ?_)
                    · have t501 := t498 c500
                      clear t498 t499
                      have A502 := t501
                      rw [fO_wu hO0 (hu393.tr (hu459.tr hu483)) ⟨g1, t1⟩ (k := 1) (by decide) (by decide), fO_wu hO0 (hu393.tr (hu459.tr hu483)) ⟨g1, t1⟩ (k := 8) (by decide) (by decide), fO_wu hO0 (hu393.tr (hu459.tr hu483)) ⟨g1, t1⟩ (k := 2) (by decide) (by decide), fO_eA (fC_un hO0 (hu393.tr (hu459.tr hu483)) g2 t2 (k := 2) (by decide) (by decide)), fO_eA (fC_un hO0 (hu393.tr (hu459.tr hu483)) g2 t2 (k := 3) (by decide) (by decide)), fO_eA (fC_un hO0 (hu393.tr (hu459.tr hu483)) g2 t2 (k := 4) (by decide) (by decide)), fO_eA (fC_un hO0 (hu393.tr (hu459.tr hu483)) g2 t2 (k := 5) (by decide) (by decide)), show x491.toInt = x455.toInt - (cf h0 a2 a3.toInt + a4.toInt) by omega] at A502
                      refine ur_ldI rfl rfl ?_
                      refine ur_ldI rfl rfl ?_
                      refine ur_binV rfl (fun x503 e504 => ?_)
                      have t505 := ti_sub e504 (by omega) (by omega)
                      refine ur_ldI rfl rfl ?_
                      refine ur_ldI rfl rfl ?_
                      refine ur_callv rfl rfl (Nat.le_of_ble_eq_true rfl) (Nat.le_of_ble_eq_true rfl) rfl (sp_within _ _ _ _ _) ?_
                      refine ur_eqB rfl (fun c508 => ?_) (fun c508 => ?_)
                      · have t509 := wi_no c508
                        refine ur_incV (fun z => [some (.inr (.inr (some 8))), some (.inr (.inr (some a1))), some (.inr (.inr (some a2))), some (.inl a3), some (.inl a4), some (.inl a5), some (.inl a6), some (.inl x50), some (.inr (.inr (some r57))), some (.inl 1), some (.inl x453), some (.inl x454), some (.inl x386), some (.inl x438), some (.inl x450), some (.inl z)]) rfl rfl (fun _ => rfl) (fun x510 e511 => ?_)
                        have t512 := ti_add e511 (by omega) (by omega)
                        refine ur_go rfl ?_
                        have z513 := any_r x453
                        have z514 := any_r x454
                        have z515 := any_r x510
                        exact ih458 x453 x454 x510 _ hO496 (hu459.tr (hu483.tr hu496)) (by omega) (px460.k A502 (Or.inl (by show ¬ (_ ∧ _); omega)) (by omega)) (hp482.uk hO483 hO496 hv496 (by decide)) (by omega)
                      · have t516 := wi_to c508
                        refine ur_ldI rfl rfl ?_
                        refine ur_push rfl ?_
                        refine ur_if2 rfl (fun c517 => ?_) (fun c517 => ?_)
                        · have t518 := eq_to c517
                          refine ur_ldI rfl rfl ?_
                          refine ur_svIk [some (.inr (.inr (some 8))), some (.inr (.inr (some a1))), some (.inr (.inr (some a2))), some (.inl a3), some (.inl a4), some (.inl a5), some (.inl a6), some (.inl x50), some (.inr (.inr (some r57))), some (.inl 1), some (.inl x453), some (.inl x455), some (.inl x386), some (.inl x438), some (.inl x450), some (.inl x455)] rfl rfl ?_
                          refine ur_incV (fun z => [some (.inr (.inr (some 8))), some (.inr (.inr (some a1))), some (.inr (.inr (some a2))), some (.inl a3), some (.inl a4), some (.inl a5), some (.inl a6), some (.inl x50), some (.inr (.inr (some r57))), some (.inl 1), some (.inl x453), some (.inl x455), some (.inl x386), some (.inl x438), some (.inl x450), some (.inl z)]) rfl rfl (fun _ => rfl) (fun x519 e520 => ?_)
                          have t521 := ti_add e520 (by omega) (by omega)
                          refine ur_go rfl ?_
                          have z522 := any_r x453
                          have z523 := any_r x519
                          exact ih458 x453 x455 x519 _ hO496 (hu459.tr (hu483.tr hu496)) (by omega) (px460.y (by omega) (by unfold SPi; rw [← e432, ← e445]; omega) C489 A502 (by show _ ∧ _; omega) (by omega) (by omega) rfl) (hp482.uk hO483 hO496 hv496 (by decide)) (by omega)
                        · have t524 := eq_no c517
                          refine ur_ldI rfl rfl ?_
                          refine ur_ldI rfl rfl ?_
                          have z525 := any_r x454
                          refine ur_if2 rfl (fun c526 => ?_) (fun c526 => ?_)
                          · have t527 := le_to c526
                            refine ur_incV (fun z => [some (.inr (.inr (some 8))), some (.inr (.inr (some a1))), some (.inr (.inr (some a2))), some (.inl a3), some (.inl a4), some (.inl a5), some (.inl a6), some (.inl x50), some (.inr (.inr (some r57))), some (.inl 1), some (.inl x453), some (.inl x454), some (.inl x386), some (.inl x438), some (.inl x450), some (.inl z)]) rfl rfl (fun _ => rfl) (fun x528 e529 => ?_)
                            have t530 := ti_add e529 (by omega) (by omega)
                            refine ur_go rfl ?_
                            have z531 := any_r x453
                            have z532 := any_r x528
                            exact ih458 x453 x454 x528 _ hO496 (hu459.tr (hu483.tr hu496)) (by omega) (px460.k A502 (Or.inr (by omega)) (by omega)) (hp482.uk hO483 hO496 hv496 (by decide)) (by omega)
                          · have t533 := le_no c526
                            refine ur_ldI rfl rfl ?_
                            refine ur_svIk [some (.inr (.inr (some 8))), some (.inr (.inr (some a1))), some (.inr (.inr (some a2))), some (.inl a3), some (.inl a4), some (.inl a5), some (.inl a6), some (.inl x50), some (.inr (.inr (some r57))), some (.inl 1), some (.inl x453), some (.inl x455), some (.inl x386), some (.inl x438), some (.inl x450), some (.inl x455)] rfl rfl ?_
                            refine ur_incV (fun z => [some (.inr (.inr (some 8))), some (.inr (.inr (some a1))), some (.inr (.inr (some a2))), some (.inl a3), some (.inl a4), some (.inl a5), some (.inl a6), some (.inl x50), some (.inr (.inr (some r57))), some (.inl 1), some (.inl x453), some (.inl x455), some (.inl x386), some (.inl x438), some (.inl x450), some (.inl z)]) rfl rfl (fun _ => rfl) (fun x534 e535 => ?_)
                            have t536 := ti_add e535 (by omega) (by omega)
                            refine ur_go rfl ?_
                            have z537 := any_r x453
                            have z538 := any_r x534
                            exact ih458 x453 x455 x534 _ hO496 (hu459.tr (hu483.tr hu496)) (by omega) (px460.y (by omega) (by unfold SPi; rw [← e432, ← e445]; omega) C489 A502 (by show _ ∧ _; omega) (by omega) (by omega) rfl) (hp482.uk hO483 hO496 hv496 (by decide)) (by omega)
                    · have t539 := t499 c500
                      clear t498 t499
                      have A540 := t539
                      rw [fO_wu hO0 (hu393.tr (hu459.tr hu483)) ⟨g1, t1⟩ (k := 1) (by decide) (by decide), fO_wu hO0 (hu393.tr (hu459.tr hu483)) ⟨g1, t1⟩ (k := 8) (by decide) (by decide), fO_wu hO0 (hu393.tr (hu459.tr hu483)) ⟨g1, t1⟩ (k := 2) (by decide) (by decide), fO_eA (fC_un hO0 (hu393.tr (hu459.tr hu483)) g2 t2 (k := 2) (by decide) (by decide)), fO_eA (fC_un hO0 (hu393.tr (hu459.tr hu483)) g2 t2 (k := 3) (by decide) (by decide)), fO_eA (fC_un hO0 (hu393.tr (hu459.tr hu483)) g2 t2 (k := 4) (by decide) (by decide)), fO_eA (fC_un hO0 (hu393.tr (hu459.tr hu483)) g2 t2 (k := 5) (by decide) (by decide)), show x491.toInt = x455.toInt - (cf h0 a2 a3.toInt + a4.toInt) by omega] at A540
                      refine ur_push rfl ?_
                      refine ur_svIk [some (.inr (.inr (some 8))), some (.inr (.inr (some a1))), some (.inr (.inr (some a2))), some (.inl a3), some (.inl a4), some (.inl a5), some (.inl a6), some (.inl x50), some (.inr (.inr (some r57))), some (.inl 1), some (.inl 1), some (.inl x454), some (.inl x386), some (.inl x438), some (.inl x450), some (.inl x455)] rfl rfl ?_
                      refine ur_go rfl ?_
                      refine ur_incV (fun z => [some (.inr (.inr (some 8))), some (.inr (.inr (some a1))), some (.inr (.inr (some a2))), some (.inl a3), some (.inl a4), some (.inl a5), some (.inl a6), some (.inl x50), some (.inr (.inr (some r57))), some (.inl 1), some (.inl 1), some (.inl x454), some (.inl x386), some (.inl x438), some (.inl x450), some (.inl z)]) rfl rfl (fun _ => rfl) (fun x541 e542 => ?_)
                      have t543 := ti_add e542 (by omega) (by omega)
                      refine ur_go rfl ?_
                      have z544 := any_r x454
                      have z545 := any_r x541
                      exact ih458 1 x454 x541 _ hO496 (hu459.tr (hu483.tr hu496)) (by omega) (px460.u (by omega) (by unfold SPi; rw [← e432, ← e445]; omega) C489 A540 (by omega) (by omega)) (hp482.uk hO483 hO496 hv496 (by decide)) (by omega)
                  · have t546 := t486 c487
                    clear t485 t486
                    have C547 := t546
                    rw [fO_eA (fC_un hO0 (hu393.tr hu459) g2 t2 (k := 2) (by decide) (by decide)), fO_eA (fC_un hO0 (hu393.tr hu459) g2 t2 (k := 3) (by decide) (by decide)), fO_eA (fC_un hO0 (hu393.tr hu459) g2 t2 (k := 4) (by decide) (by decide)), fO_eA (fC_un hO0 (hu393.tr hu459) g2 t2 (k := 5) (by decide) (by decide)), cf_un hO0 (hu393.tr hu459) g2 t2 (by decide), show f5.toInt = fO h0 a1 2 by omega] at C547
                    refine ur_go rfl ?_
                    refine ur_incV (fun z => [some (.inr (.inr (some 8))), some (.inr (.inr (some a1))), some (.inr (.inr (some a2))), some (.inl a3), some (.inl a4), some (.inl a5), some (.inl a6), some (.inl x50), some (.inr (.inr (some r57))), some (.inl 1), some (.inl x453), some (.inl x454), some (.inl x386), some (.inl x438), some (.inl x450), some (.inl z)]) rfl rfl (fun _ => rfl) (fun x548 e549 => ?_)
                    have t550 := ti_add e549 (by omega) (by omega)
                    refine ur_go rfl ?_
                    have z551 := any_r x453
                    have z552 := any_r x454
                    have z553 := any_r x548
                    exact ih458 x453 x454 x548 _ hO483 (hu459.tr hu483) (by omega) (px460.nn C547 (by omega)) hp482 (by omega)
                · have t554 := eq_no c475
                  refine ur_ldI rfl rfl ?_
                  refine ur_push rfl ?_
                  refine ur_if2 rfl (fun c555 => ?_) (fun c555 => ?_)
                  · have t556 := eq_to c555
                    refine ur_ldA rfl rfl ?_
                    refine ur_ldA rfl rfl ?_
                    refine ur_ldA rfl rfl ?_
                    refine ur_get rfl (hu459.ko (n := 13) (hu393.ko (n := 13) hc2 rfl (wid_w g18) (by decide)) rfl (wid_w g18) (by decide)) rfl ?_
                    refine ur_ldI rfl rfl ?_
                    refine ur_ldI rfl rfl ?_
                    refine ur_ldI rfl rfl ?_
                    obtain ⟨f558, hc557, k559⟩ := ok_8 hO459
                    refine ur_inl rfl (rcv_of hc557) (Nat.le_of_ble_eq_true rfl) (Nat.le_of_ble_eq_true rfl) (sd_X5_seenOn hO459 g43 (hu459.tm (hu393.tm t2 (by decide)) (by decide)) _ (by show 0 ≤ f5.toInt ∧ f5.toInt ≤ 8; omega) _ (by show -60 ≤ a3.toInt ∧ a3.toInt ≤ 60; omega) _ (by show -1000000 ≤ a4.toInt ∧ a4.toInt ≤ 1000000; omega) _ (by show 0 ≤ x455.toInt ∧ x455.toInt ≤ 999999; omega) ((pre0.un hO0 hO393 hu393 (by decide)).un hO393 hO459 hu459 (by decide)) px461 (cz_un hO0 hO459 (hu393.tr hu459) pre2 (by decide) (by decide)) ((txC_un hO0 hO459 (hu393.tr hu459) (by decide) 9 (by decide)).trans pre3) pre4 (by rw [fO_eA (fC_un hO0 (hu393.tr hu459) g2 t2 (k := 8) (by decide) (by decide)), fO_eA (fC_un hO0 (hu393.tr hu459) g2 t2 (k := 9) (by decide) (by decide))]; exact pre10) (fun w560 h563 hr561 hO563 hv563 hp562 => ?_))
                    have hu563 := hv563
                    obtain ⟨b564, rfl, t565, t566⟩ := hr561
                    show uRun _ (uCall Mt _) _ 160 (_, [(.inl (bi b564))], _, _, _)
                    refine ur_neB rfl (fun c567 => ?_) (fun c567 => ?_)
                    · have t568 := t565 c567
                      clear t565 t566
                      have C569 := t568
                      rw [fO_eA (fC_un hO0 (hu393.tr hu459) g2 t2 (k := 2) (by decide) (by decide)), fO_eA (fC_un hO0 (hu393.tr hu459) g2 t2 (k := 3) (by decide) (by decide)), fO_eA (fC_un hO0 (hu393.tr hu459) g2 t2 (k := 4) (by decide) (by decide)), fO_eA (fC_un hO0 (hu393.tr hu459) g2 t2 (k := 5) (by decide) (by decide)), cf_un hO0 (hu393.tr hu459) g2 t2 (by decide), show f5.toInt = fO h0 a1 2 by omega] at C569
                      have tt570 := C569.1
                      refine ur_ldA rfl rfl ?_
                      refine ur_ldA rfl rfl ?_
                      refine ur_ldA rfl rfl ?_
                      refine ur_ldI rfl rfl ?_
                      refine ur_ldI rfl rfl ?_
                      refine ur_binV rfl (fun x571 e572 => ?_)
                      have t573 := ti_sub e572 (by omega) (by omega)
                      refine ur_ldI rfl rfl ?_
                      refine ur_inl rfl (rcv_of (hv563.ko (n := 5) hc557 rfl (wid_f (by decide)) (by decide))) (Nat.le_of_ble_eq_true rfl) (Nat.le_of_ble_eq_true rfl) (sd_X5_isAsSaid hO563 g18 (hu563.tm (hu459.tm (hu393.tm t1 (by decide)) (by decide)) (by decide)) g43 (hu563.tm (hu459.tm (hu393.tm t2 (by decide)) (by decide)) (by decide)) _ (by show -120 ≤ x571.toInt ∧ x571.toInt ≤ 120; omega) _ (by show 0 ≤ x455.toInt ∧ x455.toInt ≤ 999999; omega) (cd1.un hO0 (hu393.tr (hu459.tr hu563)) g2 t2 (by decide) (by decide)) ((txC_un hO0 hO563 (hu393.tr (hu459.tr hu563)) (by decide) 11 (by decide)).trans pre5) pre6 (by rw [fO_wu hO0 (hu393.tr (hu459.tr hu563)) ⟨g1, t1⟩ (k := 1) (by decide) (by decide), fO_wu hO0 (hu393.tr (hu459.tr hu563)) ⟨g1, t1⟩ (k := 8) (by decide) (by decide)]; exact ld22) (fun w574 h576 hr575 hO576 hv576 => ?_))
                      have hu576 : un [222, 223, 21212] h563 h576 := hv576.mono (by decide)
                      obtain ⟨b577, rfl, t578, t579⟩ := hr575
                      show uRun _ (uCall Mt _) _ 179 (_, [(.inl (bi b577))], _, _, _)
                      refine ur_neB rfl (fun c580 => ?_) (fun c580 => ?_)
                      · have t581 := t578 c580
                        clear t578 t579
                        have A582 := t581
                        rw [fO_wu hO0 (hu393.tr (hu459.tr hu563)) ⟨g1, t1⟩ (k := 1) (by decide) (by decide), fO_wu hO0 (hu393.tr (hu459.tr hu563)) ⟨g1, t1⟩ (k := 8) (by decide) (by decide), fO_wu hO0 (hu393.tr (hu459.tr hu563)) ⟨g1, t1⟩ (k := 2) (by decide) (by decide), fO_eA (fC_un hO0 (hu393.tr (hu459.tr hu563)) g2 t2 (k := 2) (by decide) (by decide)), fO_eA (fC_un hO0 (hu393.tr (hu459.tr hu563)) g2 t2 (k := 3) (by decide) (by decide)), fO_eA (fC_un hO0 (hu393.tr (hu459.tr hu563)) g2 t2 (k := 4) (by decide) (by decide)), fO_eA (fC_un hO0 (hu393.tr (hu459.tr hu563)) g2 t2 (k := 5) (by decide) (by decide)), show x571.toInt = x455.toInt - (cf h0 a2 a3.toInt + a4.toInt) by omega] at A582
                        refine ur_ldI rfl rfl ?_
                        refine ur_ldI rfl rfl ?_
                        refine ur_binV rfl (fun x583 e584 => ?_)
                        have t585 := ti_sub e584 (by omega) (by omega)
                        refine ur_ldI rfl rfl ?_
                        refine ur_ldI rfl rfl ?_
                        refine ur_callv rfl rfl (Nat.le_of_ble_eq_true rfl) (Nat.le_of_ble_eq_true rfl) rfl (sp_within _ _ _ _ _) ?_
                        refine ur_eqB rfl (fun c588 => ?_) (fun c588 => ?_)
                        · have t589 := wi_no c588
                          refine ur_incV (fun z => [some (.inr (.inr (some 8))), some (.inr (.inr (some a1))), some (.inr (.inr (some a2))), some (.inl a3), some (.inl a4), some (.inl a5), some (.inl a6), some (.inl x50), some (.inr (.inr (some r57))), some (.inl 1), some (.inl x453), some (.inl x454), some (.inl x386), some (.inl x438), some (.inl x450), some (.inl z)]) rfl rfl (fun _ => rfl) (fun x590 e591 => ?_)
                          have t592 := ti_add e591 (by omega) (by omega)
                          refine ur_go rfl ?_
                          have z593 := any_r x453
                          have z594 := any_r x454
                          have z595 := any_r x590
                          exact ih458 x453 x454 x590 _ hO576 (hu459.tr (hu563.tr hu576)) (by omega) (px460.k A582 (Or.inl (by show ¬ (_ ∧ _); omega)) (by omega)) (hp562.uk hO563 hO576 hv576 (by decide)) (by omega)
                        · have t596 := wi_to c588
                          refine ur_ldI rfl rfl ?_
                          refine ur_push rfl ?_
                          refine ur_if2 rfl (fun c597 => ?_) (fun c597 => ?_)
                          · have t598 := eq_to c597
                            refine ur_ldI rfl rfl ?_
                            refine ur_svIk [some (.inr (.inr (some 8))), some (.inr (.inr (some a1))), some (.inr (.inr (some a2))), some (.inl a3), some (.inl a4), some (.inl a5), some (.inl a6), some (.inl x50), some (.inr (.inr (some r57))), some (.inl 1), some (.inl x453), some (.inl x455), some (.inl x386), some (.inl x438), some (.inl x450), some (.inl x455)] rfl rfl ?_
                            refine ur_incV (fun z => [some (.inr (.inr (some 8))), some (.inr (.inr (some a1))), some (.inr (.inr (some a2))), some (.inl a3), some (.inl a4), some (.inl a5), some (.inl a6), some (.inl x50), some (.inr (.inr (some r57))), some (.inl 1), some (.inl x453), some (.inl x455), some (.inl x386), some (.inl x438), some (.inl x450), some (.inl z)]) rfl rfl (fun _ => rfl) (fun x599 e600 => ?_)
                            have t601 := ti_add e600 (by omega) (by omega)
                            refine ur_go rfl ?_
                            have z602 := any_r x453
                            have z603 := any_r x599
                            exact ih458 x453 x455 x599 _ hO576 (hu459.tr (hu563.tr hu576)) (by omega) (px460.y (by omega) (by unfold SPi; rw [← e432, ← e445]; omega) C569 A582 (by show _ ∧ _; omega) (by omega) (by omega) rfl) (hp562.uk hO563 hO576 hv576 (by decide)) (by omega)
                          · have t604 := eq_no c597
                            exfalso
                            omega
                      · have t605 := t579 c580
                        clear t578 t579
                        have A606 := t605
                        rw [fO_wu hO0 (hu393.tr (hu459.tr hu563)) ⟨g1, t1⟩ (k := 1) (by decide) (by decide), fO_wu hO0 (hu393.tr (hu459.tr hu563)) ⟨g1, t1⟩ (k := 8) (by decide) (by decide), fO_wu hO0 (hu393.tr (hu459.tr hu563)) ⟨g1, t1⟩ (k := 2) (by decide) (by decide), fO_eA (fC_un hO0 (hu393.tr (hu459.tr hu563)) g2 t2 (k := 2) (by decide) (by decide)), fO_eA (fC_un hO0 (hu393.tr (hu459.tr hu563)) g2 t2 (k := 3) (by decide) (by decide)), fO_eA (fC_un hO0 (hu393.tr (hu459.tr hu563)) g2 t2 (k := 4) (by decide) (by decide)), fO_eA (fC_un hO0 (hu393.tr (hu459.tr hu563)) g2 t2 (k := 5) (by decide) (by decide)), show x571.toInt = x455.toInt - (cf h0 a2 a3.toInt + a4.toInt) by omega] at A606
                        refine ur_push rfl ?_
                        refine ur_svIk [some (.inr (.inr (some 8))), some (.inr (.inr (some a1))), some (.inr (.inr (some a2))), some (.inl a3), some (.inl a4), some (.inl a5), some (.inl a6), some (.inl x50), some (.inr (.inr (some r57))), some (.inl 1), some (.inl 1), some (.inl x454), some (.inl x386), some (.inl x438), some (.inl x450), some (.inl x455)] rfl rfl ?_
                        refine ur_go rfl ?_
                        refine ur_incV (fun z => [some (.inr (.inr (some 8))), some (.inr (.inr (some a1))), some (.inr (.inr (some a2))), some (.inl a3), some (.inl a4), some (.inl a5), some (.inl a6), some (.inl x50), some (.inr (.inr (some r57))), some (.inl 1), some (.inl 1), some (.inl x454), some (.inl x386), some (.inl x438), some (.inl x450), some (.inl z)]) rfl rfl (fun _ => rfl) (fun x607 e608 => ?_)
                        have t609 := ti_add e608 (by omega) (by omega)
                        refine ur_go rfl ?_
                        have z610 := any_r x454
                        have z611 := any_r x607
                        exact ih458 1 x454 x607 _ hO576 (hu459.tr (hu563.tr hu576)) (by omega) (px460.u (by omega) (by unfold SPi; rw [← e432, ← e445]; omega) C569 A606 (by omega) (by omega)) (hp562.uk hO563 hO576 hv576 (by decide)) (by omega)
                    · have t612 := t566 c567
                      clear t565 t566
                      have C613 := t612
                      rw [fO_eA (fC_un hO0 (hu393.tr hu459) g2 t2 (k := 2) (by decide) (by decide)), fO_eA (fC_un hO0 (hu393.tr hu459) g2 t2 (k := 3) (by decide) (by decide)), fO_eA (fC_un hO0 (hu393.tr hu459) g2 t2 (k := 4) (by decide) (by decide)), fO_eA (fC_un hO0 (hu393.tr hu459) g2 t2 (k := 5) (by decide) (by decide)), cf_un hO0 (hu393.tr hu459) g2 t2 (by decide), show f5.toInt = fO h0 a1 2 by omega] at C613
                      refine ur_go rfl ?_
                      refine ur_incV (fun z => [some (.inr (.inr (some 8))), some (.inr (.inr (some a1))), some (.inr (.inr (some a2))), some (.inl a3), some (.inl a4), some (.inl a5), some (.inl a6), some (.inl x50), some (.inr (.inr (some r57))), some (.inl 1), some (.inl x453), some (.inl x454), some (.inl x386), some (.inl x438), some (.inl x450), some (.inl z)]) rfl rfl (fun _ => rfl) (fun x614 e615 => ?_)
                      have t616 := ti_add e615 (by omega) (by omega)
                      refine ur_go rfl ?_
                      have z617 := any_r x453
                      have z618 := any_r x454
                      have z619 := any_r x614
                      exact ih458 x453 x454 x614 _ hO563 (hu459.tr hu563) (by omega) (px460.nn C613 (by omega)) hp562 (by omega)
                  · have t620 := eq_no c555
                    refine ur_ldI rfl rfl ?_
                    refine ur_ldI rfl rfl ?_
                    have z621 := any_r x454
                    refine ur_if2 rfl (fun c622 => ?_) (fun c622 => ?_)
                    · have t623 := lt_to c622
                      refine ur_ldA rfl rfl ?_
                      refine ur_ldA rfl rfl ?_
                      refine ur_ldA rfl rfl ?_
                      refine ur_get rfl (hu459.ko (n := 13) (hu393.ko (n := 13) hc2 rfl (wid_w g18) (by decide)) rfl (wid_w g18) (by decide)) rfl ?_
                      refine ur_ldI rfl rfl ?_
                      refine ur_ldI rfl rfl ?_
                      refine ur_ldI rfl rfl ?_
                      obtain ⟨f625, hc624, k626⟩ := ok_8 hO459
                      refine ur_inl rfl (rcv_of hc624) (Nat.le_of_ble_eq_true rfl) (Nat.le_of_ble_eq_true rfl) (sd_X5_seenOn hO459 g43 (hu459.tm (hu393.tm t2 (by decide)) (by decide)) _ (by show 0 ≤ f5.toInt ∧ f5.toInt ≤ 8; omega) _ (by show -60 ≤ a3.toInt ∧ a3.toInt ≤ 60; omega) _ (by show -1000000 ≤ a4.toInt ∧ a4.toInt ≤ 1000000; omega) _ (by show 0 ≤ x455.toInt ∧ x455.toInt ≤ 999999; omega) ((pre0.un hO0 hO393 hu393 (by decide)).un hO393 hO459 hu459 (by decide)) px461 (cz_un hO0 hO459 (hu393.tr hu459) pre2 (by decide) (by decide)) ((txC_un hO0 hO459 (hu393.tr hu459) (by decide) 9 (by decide)).trans pre3) pre4 (by rw [fO_eA (fC_un hO0 (hu393.tr hu459) g2 t2 (k := 8) (by decide) (by decide)), fO_eA (fC_un hO0 (hu393.tr hu459) g2 t2 (k := 9) (by decide) (by decide))]; exact pre10) (fun w627 h630 hr628 hO630 hv630 hp629 => ?_))
                      have hu630 := hv630
                      obtain ⟨b631, rfl, t632, t633⟩ := hr628
                      show uRun _ (uCall Mt _) _ 160 (_, [(.inl (bi b631))], _, _, _)
                      refine ur_neB rfl (fun c634 => ?_) (fun c634 => ?_)
                      · have t635 := t632 c634
                        clear t632 t633
                        have C636 := t635
                        rw [fO_eA (fC_un hO0 (hu393.tr hu459) g2 t2 (k := 2) (by decide) (by decide)), fO_eA (fC_un hO0 (hu393.tr hu459) g2 t2 (k := 3) (by decide) (by decide)), fO_eA (fC_un hO0 (hu393.tr hu459) g2 t2 (k := 4) (by decide) (by decide)), fO_eA (fC_un hO0 (hu393.tr hu459) g2 t2 (k := 5) (by decide) (by decide)), cf_un hO0 (hu393.tr hu459) g2 t2 (by decide), show f5.toInt = fO h0 a1 2 by omega] at C636
                        have tt637 := C636.1
                        refine ur_ldA rfl rfl ?_
                        refine ur_ldA rfl rfl ?_
                        refine ur_ldA rfl rfl ?_
                        refine ur_ldI rfl rfl ?_
                        refine ur_ldI rfl rfl ?_
                        refine ur_binV rfl (fun x638 e639 => ?_)
                        have t640 := ti_sub e639 (by omega) (by omega)
                        refine ur_ldI rfl rfl ?_
                        refine ur_inl rfl (rcv_of (hv630.ko (n := 5) hc624 rfl (wid_f (by decide)) (by decide))) (Nat.le_of_ble_eq_true rfl) (Nat.le_of_ble_eq_true rfl) (sd_X5_isAsSaid hO630 g18 (hu630.tm (hu459.tm (hu393.tm t1 (by decide)) (by decide)) (by decide)) g43 (hu630.tm (hu459.tm (hu393.tm t2 (by decide)) (by decide)) (by decide)) _ (by show -120 ≤ x638.toInt ∧ x638.toInt ≤ 120; omega) _ (by show 0 ≤ x455.toInt ∧ x455.toInt ≤ 999999; omega) (cd1.un hO0 (hu393.tr (hu459.tr hu630)) g2 t2 (by decide) (by decide)) ((txC_un hO0 hO630 (hu393.tr (hu459.tr hu630)) (by decide) 11 (by decide)).trans pre5) pre6 (by rw [fO_wu hO0 (hu393.tr (hu459.tr hu630)) ⟨g1, t1⟩ (k := 1) (by decide) (by decide), fO_wu hO0 (hu393.tr (hu459.tr hu630)) ⟨g1, t1⟩ (k := 8) (by decide) (by decide)]; exact ld22) (fun w641 h643 hr642 hO643 hv643 => ?_))
                        have hu643 : un [222, 223, 21212] h630 h643 := hv643.mono (by decide)
                        obtain ⟨b644, rfl, t645, t646⟩ := hr642
                        show uRun _ (uCall Mt _) _ 179 (_, [(.inl (bi b644))], _, _, _)
                        refine ur_neB rfl (fun c647 => ?_) (fun c647 => ?_)
                        · have t648 := t645 c647
                          clear t645 t646
                          have A649 := t648
                          rw [fO_wu hO0 (hu393.tr (hu459.tr hu630)) ⟨g1, t1⟩ (k := 1) (by decide) (by decide), fO_wu hO0 (hu393.tr (hu459.tr hu630)) ⟨g1, t1⟩ (k := 8) (by decide) (by decide), fO_wu hO0 (hu393.tr (hu459.tr hu630)) ⟨g1, t1⟩ (k := 2) (by decide) (by decide), fO_eA (fC_un hO0 (hu393.tr (hu459.tr hu630)) g2 t2 (k := 2) (by decide) (by decide)), fO_eA (fC_un hO0 (hu393.tr (hu459.tr hu630)) g2 t2 (k := 3) (by decide) (by decide)), fO_eA (fC_un hO0 (hu393.tr (hu459.tr hu630)) g2 t2 (k := 4) (by decide) (by decide)), fO_eA (fC_un hO0 (hu393.tr (hu459.tr hu630)) g2 t2 (k := 5) (by decide) (by decide)), show x638.toInt = x455.toInt - (cf h0 a2 a3.toInt + a4.toInt) by omega] at A649
                          refine ur_ldI rfl rfl ?_
                          refine ur_ldI rfl rfl ?_
                          refine ur_binV rfl (fun x650 e651 => ?_)
                          have t652 := ti_sub e651 (by omega) (by omega)
                          refine ur_ldI rfl rfl ?_
                          refine ur_ldI rfl rfl ?_
                          refine ur_callv rfl rfl (Nat.le_of_ble_eq_true rfl) (Nat.le_of_ble_eq_true rfl) rfl (sp_within _ _ _ _ _) ?_
                          refine ur_eqB rfl (fun c655 => ?_) (fun c655 => ?_)
                          · have t656 := wi_no c655
                            refine ur_incV (fun z => [some (.inr (.inr (some 8))), some (.inr (.inr (some a1))), some (.inr (.inr (some a2))), some (.inl a3), some (.inl a4), some (.inl a5), some (.inl a6), some (.inl x50), some (.inr (.inr (some r57))), some (.inl 1), some (.inl x453), some (.inl x454), some (.inl x386), some (.inl x438), some (.inl x450), some (.inl z)]) rfl rfl (fun _ => rfl) (fun x657 e658 => ?_)
                            have t659 := ti_add e658 (by omega) (by omega)
                            refine ur_go rfl ?_
                            have z660 := any_r x453
                            have z661 := any_r x657
                            exact ih458 x453 x454 x657 _ hO643 (hu459.tr (hu630.tr hu643)) (by omega) (px460.k A649 (Or.inl (by show ¬ (_ ∧ _); omega)) (by omega)) (hp629.uk hO630 hO643 hv643 (by decide)) (by omega)
                          · have t662 := wi_to c655
                            refine ur_ldI rfl rfl ?_
                            refine ur_push rfl ?_
                            refine ur_if2 rfl (fun c663 => ?_) (fun c663 => ?_)
                            · have t664 := eq_to c663
                              exfalso
                              omega
                            · have t665 := eq_no c663
                              refine ur_ldI rfl rfl ?_
                              refine ur_ldI rfl rfl ?_
                              refine ur_if2 rfl (fun c666 => ?_) (fun c666 => ?_)
                              · have t667 := le_to c666
                                refine ur_incV (fun z => [some (.inr (.inr (some 8))), some (.inr (.inr (some a1))), some (.inr (.inr (some a2))), some (.inl a3), some (.inl a4), some (.inl a5), some (.inl a6), some (.inl x50), some (.inr (.inr (some r57))), some (.inl 1), some (.inl x453), some (.inl x454), some (.inl x386), some (.inl x438), some (.inl x450), some (.inl z)]) rfl rfl (fun _ => rfl) (fun x668 e669 => ?_)
                                have t670 := ti_add e669 (by omega) (by omega)
                                refine ur_go rfl ?_
                                have z671 := any_r x453
                                have z672 := any_r x668
                                exact ih458 x453 x454 x668 _ hO643 (hu459.tr (hu630.tr hu643)) (by omega) (px460.k A649 (Or.inr (by omega)) (by omega)) (hp629.uk hO630 hO643 hv643 (by decide)) (by omega)
                              · have t673 := le_no c666
                                refine ur_ldI rfl rfl ?_
                                refine ur_svIk [some (.inr (.inr (some 8))), some (.inr (.inr (some a1))), some (.inr (.inr (some a2))), some (.inl a3), some (.inl a4), some (.inl a5), some (.inl a6), some (.inl x50), some (.inr (.inr (some r57))), some (.inl 1), some (.inl x453), some (.inl x455), some (.inl x386), some (.inl x438), some (.inl x450), some (.inl x455)] rfl rfl ?_
                                refine ur_incV (fun z => [some (.inr (.inr (some 8))), some (.inr (.inr (some a1))), some (.inr (.inr (some a2))), some (.inl a3), some (.inl a4), some (.inl a5), some (.inl a6), some (.inl x50), some (.inr (.inr (some r57))), some (.inl 1), some (.inl x453), some (.inl x455), some (.inl x386), some (.inl x438), some (.inl x450), some (.inl z)]) rfl rfl (fun _ => rfl) (fun x674 e675 => ?_)
                                have t676 := ti_add e675 (by omega) (by omega)
                                refine ur_go rfl ?_
                                have z677 := any_r x453
                                have z678 := any_r x674
                                exact ih458 x453 x455 x674 _ hO643 (hu459.tr (hu630.tr hu643)) (by omega) (px460.y (by omega) (by unfold SPi; rw [← e432, ← e445]; omega) C636 A649 (by show _ ∧ _; omega) (by omega) (by omega) rfl) (hp629.uk hO630 hO643 hv643 (by decide)) (by omega)
                        · have t679 := t646 c647
                          clear t645 t646
                          have A680 := t679
                          rw [fO_wu hO0 (hu393.tr (hu459.tr hu630)) ⟨g1, t1⟩ (k := 1) (by decide) (by decide), fO_wu hO0 (hu393.tr (hu459.tr hu630)) ⟨g1, t1⟩ (k := 8) (by decide) (by decide), fO_wu hO0 (hu393.tr (hu459.tr hu630)) ⟨g1, t1⟩ (k := 2) (by decide) (by decide), fO_eA (fC_un hO0 (hu393.tr (hu459.tr hu630)) g2 t2 (k := 2) (by decide) (by decide)), fO_eA (fC_un hO0 (hu393.tr (hu459.tr hu630)) g2 t2 (k := 3) (by decide) (by decide)), fO_eA (fC_un hO0 (hu393.tr (hu459.tr hu630)) g2 t2 (k := 4) (by decide) (by decide)), fO_eA (fC_un hO0 (hu393.tr (hu459.tr hu630)) g2 t2 (k := 5) (by decide) (by decide)), show x638.toInt = x455.toInt - (cf h0 a2 a3.toInt + a4.toInt) by omega] at A680
                          refine ur_push rfl ?_
                          refine ur_svIk [some (.inr (.inr (some 8))), some (.inr (.inr (some a1))), some (.inr (.inr (some a2))), some (.inl a3), some (.inl a4), some (.inl a5), some (.inl a6), some (.inl x50), some (.inr (.inr (some r57))), some (.inl 1), some (.inl 1), some (.inl x454), some (.inl x386), some (.inl x438), some (.inl x450), some (.inl x455)] rfl rfl ?_
                          refine ur_go rfl ?_
                          refine ur_incV (fun z => [some (.inr (.inr (some 8))), some (.inr (.inr (some a1))), some (.inr (.inr (some a2))), some (.inl a3), some (.inl a4), some (.inl a5), some (.inl a6), some (.inl x50), some (.inr (.inr (some r57))), some (.inl 1), some (.inl 1), some (.inl x454), some (.inl x386), some (.inl x438), some (.inl x450), some (.inl z)]) rfl rfl (fun _ => rfl) (fun x681 e682 => ?_)
                          have t683 := ti_add e682 (by omega) (by omega)
                          refine ur_go rfl ?_
                          have z684 := any_r x681
                          exact ih458 1 x454 x681 _ hO643 (hu459.tr (hu630.tr hu643)) (by omega) (px460.u (by omega) (by unfold SPi; rw [← e432, ← e445]; omega) C636 A680 (by omega) (by omega)) (hp629.uk hO630 hO643 hv643 (by decide)) (by omega)
                      · have t685 := t633 c634
                        clear t632 t633
                        have C686 := t685
                        rw [fO_eA (fC_un hO0 (hu393.tr hu459) g2 t2 (k := 2) (by decide) (by decide)), fO_eA (fC_un hO0 (hu393.tr hu459) g2 t2 (k := 3) (by decide) (by decide)), fO_eA (fC_un hO0 (hu393.tr hu459) g2 t2 (k := 4) (by decide) (by decide)), fO_eA (fC_un hO0 (hu393.tr hu459) g2 t2 (k := 5) (by decide) (by decide)), cf_un hO0 (hu393.tr hu459) g2 t2 (by decide), show f5.toInt = fO h0 a1 2 by omega] at C686
                        refine ur_go rfl ?_
                        refine ur_incV (fun z => [some (.inr (.inr (some 8))), some (.inr (.inr (some a1))), some (.inr (.inr (some a2))), some (.inl a3), some (.inl a4), some (.inl a5), some (.inl a6), some (.inl x50), some (.inr (.inr (some r57))), some (.inl 1), some (.inl x453), some (.inl x454), some (.inl x386), some (.inl x438), some (.inl x450), some (.inl z)]) rfl rfl (fun _ => rfl) (fun x687 e688 => ?_)
                        have t689 := ti_add e688 (by omega) (by omega)
                        refine ur_go rfl ?_
                        have z690 := any_r x453
                        have z691 := any_r x687
                        exact ih458 x453 x454 x687 _ hO630 (hu459.tr hu630) (by omega) (px460.nn C686 (by omega)) hp629 (by omega)
                    · have t692 := lt_no c622
                      refine ur_go rfl ?_
                      refine ur_incV (fun z => [some (.inr (.inr (some 8))), some (.inr (.inr (some a1))), some (.inr (.inr (some a2))), some (.inl a3), some (.inl a4), some (.inl a5), some (.inl a6), some (.inl x50), some (.inr (.inr (some r57))), some (.inl 1), some (.inl x453), some (.inl x454), some (.inl z), some (.inl x438), some (.inl x450), some (.inl x455)]) rfl rfl (fun _ => rfl) (fun x693 e694 => ?_)
                      have t695 := ti_add e694 (by omega) (by omega)
                      refine ur_go rfl ?_
                      have z696 := any_r x453
                      have z697 := any_r x693
                      exact ih392 x453 x454 x693 _ _ _ _ hO459 (hu393.tr hu459) (by omega) (px460.o (fun d q _ => Or.inr (by omega)) (fun q => by exfalso; omega) (by omega) rfl) px461 (by omega)
          have z698 := any_r x438
          have z699 := any_r x385
          have z700 := any_r x384
          exact L456 _ x384 x385 x438 _ hO393 un.rf (by omega) (px394.i (fun d q p => fun k => by have k1 := k.1.1; have k2 : a5.toInt ≤ d - (cf h0 a2 a3.toInt + a4.toInt) ∧ d - (cf h0 a2 a3.toInt + a4.toInt) ≤ a6.toInt := k.2.2; unfold SPi at q; rw [← e432, ← e445] at q; omega) (fun q d s9 p k => by have z9 := (px394.2.2 q).1; have k1 := k.1; unfold SPi at s9; rw [← e432, ← e445] at s9; omega)) px395 (Nat.lt_succ_self _)
    exact L390 _ 0 (-1) 0 (none) (none) (none) _ hO0 un.rf (by omega) (FIq.z (by omega) (by omega) rfl (by omega)) pre1 (Nat.lt_succ_self _)

set_option maxRecDepth 20000 in
set_option maxHeartbeats 4000000 in
theorem sd_X12_fitsOn {d kc ks : Nat} {h0 : aH} {Q : Option aV → aH → Prop} {ls : List (List (Int × Int) × List (Int × Int))} {l1 : List (List (Int × Int) × List (Int × Int))} (hO0 : OK h0) (hX0 : SX h0) (a1 : Int32) (b1 : 0 ≤ a1.toInt ∧ a1.toInt ≤ 149) (a2 : Int32) (b2 : 0 ≤ a2.toInt ∧ a2.toInt ≤ 11) (a3 : Int32) (b3 : -20000 ≤ a3.toInt ∧ a3.toInt ≤ 1020000) (a4 : Int32) (b4 : 0 ≤ a4.toInt ∧ a4.toInt ≤ 999999) (pre0 : SKm h0) (pre1 : a1.toInt < fI h0 38) (pre2 : a2.toInt < fI h0 4) (pre3 : RLn h0 0 ls) (pre4 : ∀ l ∈ ls, lnG l) (pre5 : RLn h0 1 l1) (pre6 : ∀ l ∈ l1, lnG l) (pre7 : LDm h0) (hQ : ∀ r h', (∃ q, r = some (.inl (bi q)) ∧ (q = true → canP ls (gI h0 74 a2.toInt) (gI h0 76 a2.toInt) (gI h0 75 a2.toInt) (gI h0 77 a2.toInt) (gI h0 97 a1.toInt) a3.toInt a4.toInt ∧ asP l1 (gI h0 96 a1.toInt) (gI h0 103 a1.toInt) (gI h0 97 a1.toInt) (gI h0 74 a2.toInt) (gI h0 76 a2.toInt) (gI h0 75 a2.toInt) (gI h0 77 a2.toInt) (a4.toInt - a3.toInt) a4.toInt) ∧ (q = false → ¬ (canP ls (gI h0 74 a2.toInt) (gI h0 76 a2.toInt) (gI h0 75 a2.toInt) (gI h0 77 a2.toInt) (gI h0 97 a1.toInt) a3.toInt a4.toInt ∧ asP l1 (gI h0 96 a1.toInt) (gI h0 103 a1.toInt) (gI h0 97 a1.toInt) (gI h0 74 a2.toInt) (gI h0 76 a2.toInt) (gI h0 75 a2.toInt) (gI h0 77 a2.toInt) (a4.toInt - a3.toInt) a4.toInt))) → OK h' → un [] h0 h' → Q r h') : uCall Mt (d + 6) 248 [(.inr (.inr (some 69))), (.inl a1), (.inl a2), (.inl a3), (.inl a4)] h0 kc ks Q := by
  have l_0 : ((0) : Int32).toInt = 0 := by decide
  have l_1 : ((1) : Int32).toInt = 1 := by decide
  have l_7 : ((7) : Int32).toInt = 7 := by decide
  have l_10 : ((10) : Int32).toInt = 10 := by decide
  have l_15 : ((15) : Int32).toInt = 15 := by decide
  refine uc_ink [some (.inr (.inr (some 69))), some (.inl a1), some (.inl a2), some (.inl a3), some (.inl a4)] mt_248 (Nat.le_of_ble_eq_true rfl) rfl ?_
  obtain ⟨fs1, hc2⟩ := hO0.mod
  obtain ⟨f3, p4, t5⟩ := mf_4 hO0 hc2
  have t6 := fI_of hc2 p4
  obtain ⟨f7, p8, t9⟩ := mf_38 hO0 hc2
  have t10 := fI_of hc2 p8
  obtain ⟨f11, p12⟩ := mf_15 hO0 hc2
  have t13 := fI_of hc2 p12
  obtain ⟨f14, p15⟩ := mf_16 hO0 hc2
  have t16 := fI_of hc2 p15
  obtain ⟨f17, p18⟩ := mf_17 hO0 hc2
  have t19 := fI_of hc2 p18
  refine ur_ldA rfl rfl ?_
  refine ur_ldI rfl rfl ?_
  refine ur_ldI rfl rfl ?_
  refine ur_ldA rfl rfl ?_
  refine ur_get rfl hc2 (mf_40 hO0 hc2) ?_
  refine ur_ldI rfl rfl ?_
  obtain ⟨xs21, hc20, hn22, he23⟩ := hO0.int (hO0.fix 97 (by decide) rfl)
  refine ur_aldV rfl hc20 hn22 (by omega) (fun x24 hx25 => ?_)
  have t26 := gI_of (j := a1) hc20 hx25
  have t27 : 0 ≤ x24.toInt ∧ x24.toInt ≤ 8 := he23 _ _ hx25
  refine ur_ldI rfl rfl ?_
  refine ur_inl rfl (rcv_of hc2) (Nat.le_of_ble_eq_true rfl) (Nat.le_of_ble_eq_true rfl) (sd_X12_canSee hO0 hX0 _ (by show 0 ≤ a2.toInt ∧ a2.toInt ≤ 11; omega) _ (by show -20000 ≤ a3.toInt ∧ a3.toInt ≤ 1020000; omega) _ (by show 0 ≤ x24.toInt ∧ x24.toInt ≤ 8; omega) _ (by show 0 ≤ a4.toInt ∧ a4.toInt ≤ 999999; omega) pre0 (by omega) pre3 pre4 (fun w28 h31 hr29 hO31 hv31 hp30 => ?_))
  have hu31 := hv31
  obtain ⟨b32, rfl, t33, t34⟩ := hr29
  show uRun _ (uCall Mt _) _ 14 (_, [(.inl (bi b32))], _, _, _)
  refine ur_neB rfl (fun c35 => ?_) (fun c35 => ?_)
  · have t36 := t33 c35
    clear t33 t34
    have C37 := t36
    rw [show x24.toInt = gI h0 97 a1.toInt by omega] at C37
    have tt39 := t36.1
    have so38 := hp30.2 (by omega)
    have tt40 := so38.2.1
    obtain ⟨fs41, hc42⟩ := hO31.mod
    obtain ⟨f43, p44⟩ := mf_15 hO31 hc42
    have t45 := fI_of hc42 p44
    obtain ⟨f46, p47⟩ := mf_16 hO31 hc42
    have t48 := fI_of hc42 p47
    obtain ⟨f49, p50⟩ := mf_17 hO31 hc42
    have t51 := fI_of hc42 p50
    have tt52 : 0 ≤ gI h0 96 a1.toInt ∧ gI h0 96 a1.toInt ≤ 7 := gI_rg (a := 96) (n := 150) hO0 (by decide) rfl (by decide) _
    refine ur_ldA rfl rfl ?_
    refine ur_get rfl hc42 (mf_39 hO31 hc42) ?_
    refine ur_ldI rfl rfl ?_
    obtain ⟨xs54, hc53, hn55, he56⟩ := hO31.int (hO31.fix 96 (by decide) rfl)
    refine ur_aldV rfl hc53 hn55 (by omega) (fun x57 hx58 => ?_)
    have t59 := gI_of (j := a1) hc53 hx58
    have t60 := gI_keep (a := 96) (kd := 0) (n := 150) hO0 hu31 (a1 : Int32).toInt (by decide) rfl (by decide) rfl (by decide) (by decide)
    have t61 : 0 ≤ x57.toInt ∧ x57.toInt ≤ 7 := he56 _ _ hx58
    rcases (show (x57.toInt < 1 ∨ 7 < x57.toInt) ∨ x57.toInt = 1 ∨ x57.toInt = 2 ∨ x57.toInt = 3 ∨ x57.toInt = 4 ∨ x57.toInt = 5 ∨ x57.toInt = 6 ∨ x57.toInt = 7 by omega) with t62 | t62 | t62 | t62 | t62 | t62 | t62 | t62
    · refine ur_tabO rfl (by show x57.toInt < 1 ∨ 1 + 7 ≤ x57.toInt; omega) ?_
      refine ur_push rfl ?_
      obtain ⟨f63, p64, t65⟩ := mf_4 hO31 hc42
      have t66 := fI_of hc42 p64
      obtain ⟨f67, p68, t69⟩ := mf_38 hO31 hc42
      have t70 := fI_of hc42 p68
      have t71 := fI_keep (k := 4) hO0 hO31 hu31 rfl (by decide)
      have t72 := fI_keep (k := 38) hO0 hO31 hu31 rfl (by decide)
      exact ur_ret rfl rfl (hQ _ _ ⟨true, rfl, fun _ => ⟨C37, fun q => absurd q (by omega), fun q => absurd q (by omega), fun q => absurd q (by omega), fun q => absurd q (by omega), fun q => absurd q (by omega)⟩, fun e => absurd e (by decide)⟩ hO31 hu31)
    · refine ur_tabI rfl (by omega) (by rw [t62]; rfl) ?_
      refine ur_ldA rfl rfl ?_
      refine ur_get rfl hc42 (mf_46 hO31 hc42) ?_
      refine ur_ldI rfl rfl ?_
      obtain ⟨xs74, hc73, hn75, he76⟩ := hO31.int (hO31.fix 103 (by decide) rfl)
      refine ur_aldV rfl hc73 hn75 (by omega) (fun x77 hx78 => ?_)
      have t79 := gI_of (j := a1) hc73 hx78
      have t80 := gI_keep (a := 103) (kd := 0) (n := 150) hO0 hu31 (a1 : Int32).toInt (by decide) rfl (by decide) rfl (by decide) (by decide)
      have t81 : -1 ≤ x77.toInt ∧ x77.toInt ≤ 149 := he76 _ _ hx78
      have tt82 := pre7 a1.toInt (by omega) (by omega) (by omega)
      refine ur_ldA rfl rfl ?_
      refine ur_get rfl hc42 p44 ?_
      have t83 := fI_keep (k := 4) hO0 hO31 hu31 rfl (by decide)
      have t84 := fI_keep (k := 38) hO0 hO31 hu31 rfl (by decide)
      refine ur_inl rfl rfl (Nat.le_of_ble_eq_true rfl) (Nat.le_of_ble_eq_true rfl) (sd_X12_lodgeApart hO31 _ (by show 0 ≤ x77.toInt ∧ x77.toInt ≤ 23; omega) _ (by show 0 ≤ f43.toInt ∧ f43.toInt ≤ 359; omega) (fun w85 hr86 => ?_))
      obtain ⟨x87, rfl, f88⟩ := hr86
      show uRun _ (uCall Mt _) _ 81 (_, [(.inl x87)], _, _, _)
      refine ur_push rfl ?_
      refine ur_if2 rfl (fun c89 => ?_) (fun c89 => ?_)
      · have t90 := lt_to c89
        refine ur_push rfl ?_
        obtain ⟨f91, p92, t93⟩ := mf_4 hO31 hc42
        have t94 := fI_of hc42 p92
        obtain ⟨f95, p96, t97⟩ := mf_38 hO31 hc42
        have t98 := fI_of hc42 p96
        exact ur_ret rfl rfl (hQ _ _ ⟨false, rfl, fun e => absurd e (by decide), fun _ => (fun H => absurd (H.2.1 (by omega)) (by have q := f88; rw [show f43.toInt = fI h31 15 by omega, so38.1, show x77.toInt = gI h0 103 a1.toInt by omega] at q; rw [← q]; omega))⟩ hO31 hu31)
      · have t99 := lt_no c89
        refine ur_push rfl ?_
        refine ur_go rfl ?_
        obtain ⟨f100, p101, t102⟩ := mf_4 hO31 hc42
        have t103 := fI_of hc42 p101
        obtain ⟨f104, p105, t106⟩ := mf_38 hO31 hc42
        have t107 := fI_of hc42 p105
        exact ur_ret rfl rfl (hQ _ _ ⟨true, rfl, fun _ => ⟨C37, fun _ => (by have q := f88; rw [show f43.toInt = fI h31 15 by omega, so38.1, show x77.toInt = gI h0 103 a1.toInt by omega] at q; rw [← q]; omega), fun q => absurd q (by omega), fun q => absurd q (by omega), fun q => absurd q (by omega), fun q => absurd q (by omega)⟩, fun e => absurd e (by decide)⟩ hO31 hu31)
    · refine ur_tabI rfl (by omega) (by rw [t62]; rfl) ?_
      refine ur_ldA rfl rfl ?_
      refine ur_ldI rfl rfl ?_
      have t108 := fI_keep (k := 4) hO0 hO31 hu31 rfl (by decide)
      have t109 := fI_keep (k := 38) hO0 hO31 hu31 rfl (by decide)
      refine ur_inl rfl (rcv_of hc42) (Nat.le_of_ble_eq_true rfl) (Nat.le_of_ble_eq_true rfl) (sd_X12_isWest hO31 _ (by show 0 ≤ a4.toInt ∧ a4.toInt ≤ 999999; omega) (by omega) (fun w110 hr111 => ?_))
      obtain ⟨b112, rfl, t113, t114⟩ := hr111
      show uRun _ (uCall Mt _) _ 120 (_, [(.inl (bi b112))], _, _, _)
      refine ur_ldA rfl rfl ?_
      refine ur_get rfl hc42 (mf_46 hO31 hc42) ?_
      refine ur_ldI rfl rfl ?_
      obtain ⟨xs116, hc115, hn117, he118⟩ := hO31.int (hO31.fix 103 (by decide) rfl)
      refine ur_aldV rfl hc115 hn117 (by omega) (fun x119 hx120 => ?_)
      have t121 := gI_of (j := a1) hc115 hx120
      have t122 := gI_keep (a := 103) (kd := 0) (n := 150) hO0 hu31 (a1 : Int32).toInt (by decide) rfl (by decide) rfl (by decide) (by decide)
      have t123 : -1 ≤ x119.toInt ∧ x119.toInt ≤ 149 := he118 _ _ hx120
      refine ur_push rfl ?_
      refine ur_if2 rfl (fun c124 => ?_) (fun c124 => ?_)
      · have t125 := ne_to c124
        refine ur_push rfl ?_
        refine ur_if2 rfl (fun c126 => ?_) (fun c126 => ?_)
        · have t127 := ne_to c126
          have t128 := t113 (bz_n0 t127)
          refine ur_push rfl ?_
          obtain ⟨f129, p130, t131⟩ := mf_4 hO31 hc42
          have t132 := fI_of hc42 p130
          obtain ⟨f133, p134, t135⟩ := mf_38 hO31 hc42
          have t136 := fI_of hc42 p134
          exact ur_ret rfl rfl (hQ _ _ ⟨false, rfl, fun e => absurd e (by decide), fun _ => (fun H => absurd ((H.2.2.2.1 (by omega)).mp (by have q := t128; rw [so38.1] at q; exact q)) (by omega))⟩ hO31 hu31)
        · have t137 := ne_no c126
          have t138 := t114 (bz_0 t137)
          refine ur_push rfl ?_
          refine ur_go rfl ?_
          obtain ⟨f139, p140, t141⟩ := mf_4 hO31 hc42
          have t142 := fI_of hc42 p140
          obtain ⟨f143, p144, t145⟩ := mf_38 hO31 hc42
          have t146 := fI_of hc42 p144
          exact ur_ret rfl rfl (hQ _ _ ⟨true, rfl, fun _ => ⟨C37, fun q => absurd q (by omega), fun q => absurd q (by omega), fun _ => ⟨fun q => absurd q (by have q := t138; rw [so38.1] at q; exact q), fun m => by exfalso; omega⟩, fun q => absurd q (by omega), fun q => absurd q (by omega)⟩, fun e => absurd e (by decide)⟩ hO31 hu31)
      · have t147 := ne_no c124
        refine ur_push rfl ?_
        refine ur_go rfl ?_
        refine ur_if2 rfl (fun c148 => ?_) (fun c148 => ?_)
        · have t149 := ne_to c148
          have t150 := t114 (bz_n1 t149)
          refine ur_push rfl ?_
          obtain ⟨f151, p152, t153⟩ := mf_4 hO31 hc42
          have t154 := fI_of hc42 p152
          obtain ⟨f155, p156, t157⟩ := mf_38 hO31 hc42
          have t158 := fI_of hc42 p156
          exact ur_ret rfl rfl (hQ _ _ ⟨false, rfl, fun e => absurd e (by decide), fun _ => (fun H => absurd ((H.2.2.2.1 (by omega)).mpr (by omega)) (by have q := t150; rw [so38.1] at q; exact q))⟩ hO31 hu31)
        · have t159 := ne_no c148
          have t160 := t113 (bz_1 t159)
          refine ur_push rfl ?_
          refine ur_go rfl ?_
          obtain ⟨f161, p162, t163⟩ := mf_4 hO31 hc42
          have t164 := fI_of hc42 p162
          obtain ⟨f165, p166, t167⟩ := mf_38 hO31 hc42
          have t168 := fI_of hc42 p166
          exact ur_ret rfl rfl (hQ _ _ ⟨true, rfl, fun _ => ⟨C37, fun q => absurd q (by omega), fun q => absurd q (by omega), fun _ => ⟨fun _ => by omega, fun _ => (by have q := t160; rw [so38.1] at q; exact q)⟩, fun q => absurd q (by omega), fun q => absurd q (by omega)⟩, fun e => absurd e (by decide)⟩ hO31 hu31)
    · refine ur_tabI rfl (by omega) (by rw [t62]; rfl) ?_
      refine ur_push rfl ?_
      obtain ⟨f169, p170, t171⟩ := mf_4 hO31 hc42
      have t172 := fI_of hc42 p170
      obtain ⟨f173, p174, t175⟩ := mf_38 hO31 hc42
      have t176 := fI_of hc42 p174
      have t177 := fI_keep (k := 4) hO0 hO31 hu31 rfl (by decide)
      have t178 := fI_keep (k := 38) hO0 hO31 hu31 rfl (by decide)
      exact ur_ret rfl rfl (hQ _ _ ⟨true, rfl, fun _ => ⟨C37, fun q => absurd q (by omega), fun q => absurd q (by omega), fun q => absurd q (by omega), fun q => absurd q (by omega), fun q => absurd q (by omega)⟩, fun e => absurd e (by decide)⟩ hO31 hu31)
    · refine ur_tabI rfl (by omega) (by rw [t62]; rfl) ?_
      refine ur_ldI rfl rfl ?_
      refine ur_ldI rfl rfl ?_
      refine ur_binV rfl (fun x179 e180 => ?_)
      have z181 := any_r a4
      have z182 := any_r a3
      have t183 := ti_sub e180 (by omega) (by omega)
      have t184 := fI_keep (k := 4) hO0 hO31 hu31 rfl (by decide)
      have t185 := fI_keep (k := 38) hO0 hO31 hu31 rfl (by decide)
      refine ur_inl rfl rfl (Nat.le_of_ble_eq_true rfl) (Nat.le_of_ble_eq_true rfl) (sf_X12_sizeOf _ (fun w186 hr187 => ?_))
      obtain ⟨x188, rfl, t189⟩ := hr187
      show uRun _ (uCall Mt _) _ 151 (_, [(.inl x188)], _, _, _)
      refine ur_push rfl ?_
      refine ur_if2 rfl (fun c190 => ?_) (fun c190 => ?_)
      · have t191 := lt_to c190
        refine ur_push rfl ?_
        obtain ⟨f192, p193, t194⟩ := mf_4 hO31 hc42
        have t195 := fI_of hc42 p193
        obtain ⟨f196, p197, t198⟩ := mf_38 hO31 hc42
        have t199 := fI_of hc42 p197
        exact ur_ret rfl rfl (hQ _ _ ⟨false, rfl, fun e => absurd e (by decide), fun _ => (fun H => absurd (H.2.2.2.2.1 (by omega)) (by unfold azI; split <;> omega))⟩ hO31 hu31)
      · have t200 := lt_no c190
        refine ur_push rfl ?_
        refine ur_go rfl ?_
        obtain ⟨f201, p202, t203⟩ := mf_4 hO31 hc42
        have t204 := fI_of hc42 p202
        obtain ⟨f205, p206, t207⟩ := mf_38 hO31 hc42
        have t208 := fI_of hc42 p206
        exact ur_ret rfl rfl (hQ _ _ ⟨true, rfl, fun _ => ⟨C37, fun q => absurd q (by omega), fun q => absurd q (by omega), fun q => absurd q (by omega), fun _ => (by unfold azI; split <;> omega), fun q => absurd q (by omega)⟩, fun e => absurd e (by decide)⟩ hO31 hu31)
    · refine ur_tabI rfl (by omega) (by rw [t62]; rfl) ?_
      refine ur_ldA rfl rfl ?_
      refine ur_ldI rfl rfl ?_
      refine ur_ldA rfl rfl ?_
      refine ur_get rfl hc42 (mf_40 hO31 hc42) ?_
      refine ur_ldI rfl rfl ?_
      refine ur_aldV rfl (hv31.ka (n := 150) hc20 hn22 rfl (by decide) (wid_f (by decide)) (by decide)) hn22 (by omega) (fun x209 hx210 => ?_)
      obtain rfl : x24 = x209 := Option.some.inj (hx25.symm.trans hx210)
      refine ur_ldI rfl rfl ?_
      have t211 := fI_keep (k := 4) hO0 hO31 hu31 rfl (by decide)
      have t212 := fI_keep (k := 38) hO0 hO31 hu31 rfl (by decide)
      refine ur_inl rfl (rcv_of hc42) (Nat.le_of_ble_eq_true rfl) (Nat.le_of_ble_eq_true rfl) (sd_X12_tailNow hO31 (hX0.un hO0 hO31 hu31 (by decide)) _ (by show 0 ≤ a2.toInt ∧ a2.toInt ≤ 11; omega) _ (by show 0 ≤ x24.toInt ∧ x24.toInt ≤ 8; omega) _ (by show 0 ≤ a4.toInt ∧ a4.toInt ≤ 999999; omega) (by omega) (pre5.keep (KN.un hO0 hu31 (by decide) (by decide) (by decide) (by decide) (by decide)) (by decide)) pre6 (fun w213 h215 hr214 hO215 hv215 => ?_))
      have hu215 := hv215
      obtain ⟨x216, rfl, f217⟩ := hr214
      show uRun _ (uCall Mt _) _ 175 (_, [(.inl x216)], _, _, _)
      refine ur_if1 rfl (fun c218 => ?_) (fun c218 => ?_)
      · have t219 := ne_to c218
        refine ur_push rfl ?_
        obtain ⟨fs220, hc221⟩ := hO215.mod
        obtain ⟨f222, p223, t224⟩ := mf_4 hO215 hc221
        have t225 := fI_of hc221 p223
        obtain ⟨f226, p227, t228⟩ := mf_38 hO215 hc221
        have t229 := fI_of hc221 p227
        obtain ⟨f230, p231⟩ := mf_15 hO215 hc221
        have t232 := fI_of hc221 p231
        obtain ⟨f233, p234⟩ := mf_16 hO215 hc221
        have t235 := fI_of hc221 p234
        obtain ⟨f236, p237⟩ := mf_17 hO215 hc221
        have t238 := fI_of hc221 p237
        have t239 := fI_keep (k := 4) hO0 hO215 (hu31.tr hu215) rfl (by decide)
        have t240 := fI_keep (k := 38) hO0 hO215 (hu31.tr hu215) rfl (by decide)
        exact ur_ret rfl rfl (hQ _ _ ⟨false, rfl, fun e => absurd e (by decide), fun _ => (fun H => absurd (H.2.2.2.2.2 (by omega)) (by have q := f217.1; have u := hp30.1; rw [so38.1, so38.2.2, u, (gI_keep (a := 77) (kd := 0) (n := 12) hO0 hu31 a2.toInt (by decide) rfl (by decide) rfl (by decide) (by decide)), show x24.toInt = gI h0 97 a1.toInt by omega] at q; have q : _ = tlV _ _ _ _ _ _ _ _ := q; rw [← q]; omega))⟩ hO215 (hu31.tr hu215))
      · have t241 := ne_no c218
        refine ur_push rfl ?_
        refine ur_go rfl ?_
        obtain ⟨fs242, hc243⟩ := hO215.mod
        obtain ⟨f244, p245, t246⟩ := mf_4 hO215 hc243
        have t247 := fI_of hc243 p245
        obtain ⟨f248, p249, t250⟩ := mf_38 hO215 hc243
        have t251 := fI_of hc243 p249
        obtain ⟨f252, p253⟩ := mf_15 hO215 hc243
        have t254 := fI_of hc243 p253
        obtain ⟨f255, p256⟩ := mf_16 hO215 hc243
        have t257 := fI_of hc243 p256
        obtain ⟨f258, p259⟩ := mf_17 hO215 hc243
        have t260 := fI_of hc243 p259
        have t261 := fI_keep (k := 4) hO0 hO215 (hu31.tr hu215) rfl (by decide)
        have t262 := fI_keep (k := 38) hO0 hO215 (hu31.tr hu215) rfl (by decide)
        exact ur_ret rfl rfl (hQ _ _ ⟨true, rfl, fun _ => ⟨C37, fun q => absurd q (by omega), fun q => absurd q (by omega), fun q => absurd q (by omega), fun q => absurd q (by omega), fun _ => (by have q := f217.1; have u := hp30.1; rw [so38.1, so38.2.2, u, (gI_keep (a := 77) (kd := 0) (n := 12) hO0 hu31 a2.toInt (by decide) rfl (by decide) rfl (by decide) (by decide)), show x24.toInt = gI h0 97 a1.toInt by omega] at q; have q : _ = tlV _ _ _ _ _ _ _ _ := q; rw [← q]; omega)⟩, fun e => absurd e (by decide)⟩ hO215 (hu31.tr hu215))
    · refine ur_tabI rfl (by omega) (by rw [t62]; rfl) ?_
      refine ur_ldA rfl rfl ?_
      refine ur_get rfl hc42 p44 ?_
      refine ur_push rfl ?_
      refine ur_divV rfl (by decide) (fun x263 e264 => ?_)
      have z265 := any_r f43
      have t266 : 0 ≤ f43.toInt → x263.toInt = f43.toInt / 15 := fun q => ti_div e264 l_15 (by decide) q
      refine ur_ldA rfl rfl ?_
      refine ur_get rfl hc42 (mf_46 hO31 hc42) ?_
      refine ur_ldI rfl rfl ?_
      obtain ⟨xs268, hc267, hn269, he270⟩ := hO31.int (hO31.fix 103 (by decide) rfl)
      refine ur_aldV rfl hc267 hn269 (by omega) (fun x271 hx272 => ?_)
      have t273 := gI_of (j := a1) hc267 hx272
      have t274 := gI_keep (a := 103) (kd := 0) (n := 150) hO0 hu31 (a1 : Int32).toInt (by decide) rfl (by decide) rfl (by decide) (by decide)
      have t275 : -1 ≤ x271.toInt ∧ x271.toInt ≤ 149 := he270 _ _ hx272
      have tt276 := pre7 a1.toInt (by omega) (by omega) (by omega)
      have z277 := any_r x263
      have z278 := any_r x271
      refine ur_if2 rfl (fun c279 => ?_) (fun c279 => ?_)
      · have t280 := ne_to c279
        refine ur_push rfl ?_
        obtain ⟨f281, p282, t283⟩ := mf_4 hO31 hc42
        have t284 := fI_of hc42 p282
        obtain ⟨f285, p286, t287⟩ := mf_38 hO31 hc42
        have t288 := fI_of hc42 p286
        have t289 := fI_keep (k := 4) hO0 hO31 hu31 rfl (by decide)
        have t290 := fI_keep (k := 38) hO0 hO31 hu31 rfl (by decide)
        exact ur_ret rfl rfl (hQ _ _ ⟨false, rfl, fun e => absurd e (by decide), fun _ => (fun H => absurd (H.2.2.1 (by omega)) (by have q := ofF_0 (g := fI h31 15) (l := gI h0 103 a1.toInt) (by omega) (by omega); rw [so38.1] at q; have r := so38.1; omega))⟩ hO31 hu31)
      · have t291 := ne_no c279
        refine ur_push rfl ?_
        refine ur_go rfl ?_
        obtain ⟨f292, p293, t294⟩ := mf_4 hO31 hc42
        have t295 := fI_of hc42 p293
        obtain ⟨f296, p297, t298⟩ := mf_38 hO31 hc42
        have t299 := fI_of hc42 p297
        have t300 := fI_keep (k := 4) hO0 hO31 hu31 rfl (by decide)
        have t301 := fI_keep (k := 38) hO0 hO31 hu31 rfl (by decide)
        exact ur_ret rfl rfl (hQ _ _ ⟨true, rfl, fun _ => ⟨C37, fun q => absurd q (by omega), fun _ => (by have q := ofF_0 (g := fI h31 15) (l := gI h0 103 a1.toInt) (by omega) (by omega); rw [so38.1] at q; have r := so38.1; omega), fun q => absurd q (by omega), fun q => absurd q (by omega), fun q => absurd q (by omega)⟩, fun e => absurd e (by decide)⟩ hO31 hu31)
    · refine ur_tabI rfl (by omega) (by rw [t62]; rfl) ?_
      refine ur_ldA rfl rfl ?_
      refine ur_ldI rfl rfl ?_
      have t302 := fI_keep (k := 4) hO0 hO31 hu31 rfl (by decide)
      have t303 := fI_keep (k := 38) hO0 hO31 hu31 rfl (by decide)
      refine ur_inl rfl (rcv_of hc42) (Nat.le_of_ble_eq_true rfl) (Nat.le_of_ble_eq_true rfl) (sd_X12_isWest hO31 _ (by show 0 ≤ a4.toInt ∧ a4.toInt ≤ 999999; omega) (by omega) (fun w304 hr305 => ?_))
      obtain ⟨b306, rfl, t307, t308⟩ := hr305
      show uRun _ (uCall Mt _) _ 120 (_, [(.inl (bi b306))], _, _, _)
      refine ur_ldA rfl rfl ?_
      refine ur_get rfl hc42 (mf_46 hO31 hc42) ?_
      refine ur_ldI rfl rfl ?_
      obtain ⟨xs310, hc309, hn311, he312⟩ := hO31.int (hO31.fix 103 (by decide) rfl)
      refine ur_aldV rfl hc309 hn311 (by omega) (fun x313 hx314 => ?_)
      have t315 := gI_of (j := a1) hc309 hx314
      have t316 := gI_keep (a := 103) (kd := 0) (n := 150) hO0 hu31 (a1 : Int32).toInt (by decide) rfl (by decide) rfl (by decide) (by decide)
      have t317 : -1 ≤ x313.toInt ∧ x313.toInt ≤ 149 := he312 _ _ hx314
      refine ur_push rfl ?_
      refine ur_if2 rfl (fun c318 => ?_) (fun c318 => ?_)
      · have t319 := ne_to c318
        refine ur_push rfl ?_
        refine ur_if2 rfl (fun c320 => ?_) (fun c320 => ?_)
        · have t321 := ne_to c320
          have t322 := t307 (bz_n0 t321)
          refine ur_push rfl ?_
          obtain ⟨f323, p324, t325⟩ := mf_4 hO31 hc42
          have t326 := fI_of hc42 p324
          obtain ⟨f327, p328, t329⟩ := mf_38 hO31 hc42
          have t330 := fI_of hc42 p328
          exact ur_ret rfl rfl (hQ _ _ ⟨false, rfl, fun e => absurd e (by decide), fun _ => (fun H => absurd ((H.2.2.2.1 (by omega)).mp (by have q := t322; rw [so38.1] at q; exact q)) (by omega))⟩ hO31 hu31)
        · have t331 := ne_no c320
          have t332 := t308 (bz_0 t331)
          refine ur_push rfl ?_
          refine ur_go rfl ?_
          obtain ⟨f333, p334, t335⟩ := mf_4 hO31 hc42
          have t336 := fI_of hc42 p334
          obtain ⟨f337, p338, t339⟩ := mf_38 hO31 hc42
          have t340 := fI_of hc42 p338
          exact ur_ret rfl rfl (hQ _ _ ⟨true, rfl, fun _ => ⟨C37, fun q => absurd q (by omega), fun q => absurd q (by omega), fun _ => ⟨fun q => absurd q (by have q := t332; rw [so38.1] at q; exact q), fun m => by exfalso; omega⟩, fun q => absurd q (by omega), fun q => absurd q (by omega)⟩, fun e => absurd e (by decide)⟩ hO31 hu31)
      · have t341 := ne_no c318
        refine ur_push rfl ?_
        refine ur_go rfl ?_
        refine ur_if2 rfl (fun c342 => ?_) (fun c342 => ?_)
        · have t343 := ne_to c342
          have t344 := t308 (bz_n1 t343)
          refine ur_push rfl ?_
          obtain ⟨f345, p346, t347⟩ := mf_4 hO31 hc42
          have t348 := fI_of hc42 p346
          obtain ⟨f349, p350, t351⟩ := mf_38 hO31 hc42
          have t352 := fI_of hc42 p350
          exact ur_ret rfl rfl (hQ _ _ ⟨false, rfl, fun e => absurd e (by decide), fun _ => (fun H => absurd ((H.2.2.2.1 (by omega)).mpr (by omega)) (by have q := t344; rw [so38.1] at q; exact q))⟩ hO31 hu31)
        · have t353 := ne_no c342
          have t354 := t307 (bz_1 t353)
          refine ur_push rfl ?_
          refine ur_go rfl ?_
          obtain ⟨f355, p356, t357⟩ := mf_4 hO31 hc42
          have t358 := fI_of hc42 p356
          obtain ⟨f359, p360, t361⟩ := mf_38 hO31 hc42
          have t362 := fI_of hc42 p360
          exact ur_ret rfl rfl (hQ _ _ ⟨true, rfl, fun _ => ⟨C37, fun q => absurd q (by omega), fun q => absurd q (by omega), fun _ => ⟨fun _ => by omega, fun _ => (by have q := t354; rw [so38.1] at q; exact q)⟩, fun q => absurd q (by omega), fun q => absurd q (by omega)⟩, fun e => absurd e (by decide)⟩ hO31 hu31)
  · have t363 := t34 c35
    clear t33 t34
    refine ur_push rfl ?_
    obtain ⟨fs364, hc365⟩ := hO31.mod
    obtain ⟨f366, p367, t368⟩ := mf_4 hO31 hc365
    have t369 := fI_of hc365 p367
    obtain ⟨f370, p371, t372⟩ := mf_38 hO31 hc365
    have t373 := fI_of hc365 p371
    obtain ⟨f374, p375⟩ := mf_15 hO31 hc365
    have t376 := fI_of hc365 p375
    obtain ⟨f377, p378⟩ := mf_16 hO31 hc365
    have t379 := fI_of hc365 p378
    obtain ⟨f380, p381⟩ := mf_17 hO31 hc365
    have t382 := fI_of hc365 p381
    have t383 := fI_keep (k := 4) hO0 hO31 hu31 rfl (by decide)
    have t384 := fI_keep (k := 38) hO0 hO31 hu31 rfl (by decide)
    exact ur_ret rfl rfl (hQ _ _ ⟨false, rfl, fun e => absurd e (by decide), fun _ => (fun q => t363 (by have k := q.1; rw [show gI h0 97 a1.toInt = x24.toInt by omega] at k; exact k))⟩ hO31 hu31)

set_option maxRecDepth 20000 in
set_option maxHeartbeats 4000000 in
theorem sd_X12_findLook {d kc ks : Nat} {h0 : aH} {Q : Option aV → aH → Prop} {M : Nat → List (List (Int × Int) × List (Int × Int))} (hO0 : OK h0) (hX0 : SX h0) (a1 : Int32) (b1 : 0 ≤ a1.toInt ∧ a1.toInt ≤ 149) (a2 : Int32) (b2 : 0 ≤ a2.toInt ∧ a2.toInt ≤ 1) (a3 : Int32) (b3 : -400 ≤ a3.toInt ∧ a3.toInt ≤ 400) (a4 : Int32) (b4 : -20000 ≤ a4.toInt ∧ a4.toInt ≤ 1020000) (pre0 : a1.toInt < fI h0 38) (pre1 : RXF h0 M) (pre2 : SLm h0) (hQ : ∀ r h', (∃ q, r = some (.inl (bi q)) ∧ (q = true → ((spF (VM h0 M (rt h0 a1.toInt) a2.toInt + a3.toInt) (gI h0 102 (rt h0 a1.toInt))) ≤ fI h' 52 ∧ a4.toInt - 120 ≤ fI h' 52 ∧ (fI h' 52 = (spF (VM h0 M (rt h0 a1.toInt) a2.toInt + a3.toInt) (gI h0 102 (rt h0 a1.toInt))) ∨ fI h' 52 = a4.toInt - 120)) ∧ (fI h' 53 ≤ (spT (VM h0 M (rt h0 a1.toInt) a2.toInt + a3.toInt) (gI h0 102 (rt h0 a1.toInt))) ∧ fI h' 53 ≤ a4.toInt + 120 ∧ (fI h' 53 = (spT (VM h0 M (rt h0 a1.toInt) a2.toInt + a3.toInt) (gI h0 102 (rt h0 a1.toInt))) ∨ fI h' 53 = a4.toInt + 120)) ∧ fI h' 52 ≤ fI h' 53 ∧ 0 ≤ fI h' 52 ∧ fI h' 53 ≤ 999999) ∧ (q = false → ¬ ((spF (VM h0 M (rt h0 a1.toInt) a2.toInt + a3.toInt) (gI h0 102 (rt h0 a1.toInt))) ≤ (spT (VM h0 M (rt h0 a1.toInt) a2.toInt + a3.toInt) (gI h0 102 (rt h0 a1.toInt))) ∧ a4.toInt - 120 ≤ (spT (VM h0 M (rt h0 a1.toInt) a2.toInt + a3.toInt) (gI h0 102 (rt h0 a1.toInt))) ∧ (spF (VM h0 M (rt h0 a1.toInt) a2.toInt + a3.toInt) (gI h0 102 (rt h0 a1.toInt))) ≤ a4.toInt + 120))) → OK h' → un [] h0 h' → Q r h') : uCall Mt (d + 5) 249 [(.inr (.inr (some 69))), (.inl a1), (.inl a2), (.inl a3), (.inl a4)] h0 kc ks Q := by
  have l_0 : ((0) : Int32).toInt = 0 := by decide
  have l_1 : ((1) : Int32).toInt = 1 := by decide
  have l_120 : ((120) : Int32).toInt = 120 := by decide
  refine uc_ink [some (.inr (.inr (some 69))), some (.inl a1), some (.inl a2), some (.inl a3), some (.inl a4)] mt_249 (Nat.le_of_ble_eq_true rfl) rfl ?_
  obtain ⟨fs1, hc2⟩ := hO0.mod
  obtain ⟨f3, p4, t5⟩ := mf_38 hO0 hc2
  have t6 := fI_of hc2 p4
  obtain ⟨f7, p8⟩ := mf_50 hO0 hc2
  have t9 := fI_of hc2 p8
  obtain ⟨f10, p11⟩ := mf_51 hO0 hc2
  have t12 := fI_of hc2 p11
  obtain ⟨f13, p14⟩ := mf_52 hO0 hc2
  have t15 := fI_of hc2 p14
  obtain ⟨f16, p17⟩ := mf_53 hO0 hc2
  have t18 := fI_of hc2 p17
  refine ur_ldA rfl rfl ?_
  refine ur_ldI rfl rfl ?_
  refine ur_ldI rfl rfl ?_
  refine ur_ldI rfl rfl ?_
  refine ur_inl rfl (rcv_of hc2) (Nat.le_of_ble_eq_true rfl) (Nat.le_of_ble_eq_true rfl) (st_X12_findSpan hO0 hX0 _ (by show 0 ≤ a1.toInt ∧ a1.toInt ≤ 149; omega) _ _ (by show -400 ≤ a3.toInt ∧ a3.toInt ≤ 400; omega) (by omega) pre1 pre2 (fun w19 h21 hr20 hO21 hv21 => ?_))
  have hu21 := hv21
  obtain ⟨x22, rfl, f23⟩ := hr20
  show uRun _ (uCall Mt _) _ 7 (_, [(.inl x22)], _, _, _)
  have w24 := f23
  obtain ⟨fs25, hc26⟩ := hO21.mod
  obtain ⟨f27, p28⟩ := mf_50 hO21 hc26
  have t29 := fI_of hc26 p28
  obtain ⟨f30, p31⟩ := mf_51 hO21 hc26
  have t32 := fI_of hc26 p31
  refine ur_if1 rfl (fun c33 => ?_) (fun c33 => ?_)
  · have t34 := ne_to c33
    refine ur_ldA rfl rfl ?_
    refine ur_ldA rfl rfl ?_
    refine ur_get rfl hc26 p28 ?_
    refine ur_ldI rfl rfl ?_
    refine ur_push rfl ?_
    refine ur_binV rfl (fun x35 e36 => ?_)
    have z37 := any_r a4
    have t38 := ti_sub e36 (by omega) (by omega)
    have z39 := any_r f27
    have z40 := any_r x35
    refine ur_if2 rfl (fun c41 => ?_) (fun c41 => ?_)
    · have t42 := le_to c41
      refine ur_ldA rfl rfl ?_
      refine ur_get rfl hc26 p28 ?_
      obtain ⟨f43, p44⟩ := mf_52 hO21 hc26
      have t45 := fI_of hc26 p44
      refine ur_putM (W := []) rfl hO21 hc26 (by decide) rfl (ms_52 (hO21.msh hc26)) (Or.inl rfl) (fun h47 hO47 hu47 d46 hc48 => ?_)
      have t49 := fI_of hc48 (gs_ne p28 (by decide))
      have t50 := fI_of hc48 (gs_ne p31 (by decide))
      have t51 := fI_of hc48 (gs_eq p44)
      refine ur_ldA rfl rfl ?_
      refine ur_ldA rfl rfl ?_
      refine ur_get rfl hc48 (gs_ne p31 (by decide)) ?_
      refine ur_ldI rfl rfl ?_
      refine ur_push rfl ?_
      refine ur_binV rfl (fun x52 e53 => ?_)
      have t54 := ti_add e53 (by omega) (by omega)
      have z55 := any_r f30
      have z56 := any_r x52
      refine ur_if2 rfl (fun c57 => ?_) (fun c57 => ?_)
      · have t58 := le_to c57
        refine ur_ldA rfl rfl ?_
        refine ur_get rfl hc48 (gs_ne p31 (by decide)) ?_
        obtain ⟨f59, p60⟩ := mf_53 hO47 hc48
        have t61 := fI_of hc48 p60
        refine ur_putM (W := []) rfl hO47 hc48 (by decide) rfl (ms_53 (hO47.msh hc48)) (Or.inl rfl) (fun h63 hO63 hu63 d62 hc64 => ?_)
        have t65 := fI_of hc64 (gs_ne (gs_ne p28 (by decide)) (by decide))
        have t66 := fI_of hc64 (gs_ne (gs_ne p31 (by decide)) (by decide))
        have t67 := fI_of hc64 (gs_ne (gs_eq p44) (by decide))
        have t68 := fI_of hc64 (gs_eq p60)
        refine ur_ldA rfl rfl ?_
        refine ur_get rfl hc64 (gs_ne (gs_eq p44) (by decide)) ?_
        refine ur_ldA rfl rfl ?_
        refine ur_get rfl hc64 (gs_eq p60) ?_
        refine ur_if2 rfl (fun c69 => ?_) (fun c69 => ?_)
        · have t70 := lt_to c69
          refine ur_push rfl ?_
          obtain ⟨f71, p72, t73⟩ := mf_38 hO63 hc64
          have t74 := fI_of hc64 p72
          have t75 := fI_keep (k := 38) hO0 hO63 (hu21.tr (hu47.tr hu63)) rfl (by decide)
          exact ur_ret rfl rfl (hQ _ _ ⟨false, rfl, fun e => absurd e (by decide), fun _ => (by omega)⟩ hO63 (hu21.tr (hu47.tr hu63)))
        · have t76 := lt_no c69
          refine ur_push rfl ?_
          refine ur_go rfl ?_
          obtain ⟨f77, p78, t79⟩ := mf_38 hO63 hc64
          have t80 := fI_of hc64 p78
          have t81 := fI_keep (k := 38) hO0 hO63 (hu21.tr (hu47.tr hu63)) rfl (by decide)
          exact ur_ret rfl rfl (hQ _ _ ⟨true, rfl, fun _ => (by omega), fun e => absurd e (by decide)⟩ hO63 (hu21.tr (hu47.tr hu63)))
      · have t82 := le_no c57
        refine ur_ldI rfl rfl ?_
        refine ur_push rfl ?_
        refine ur_binV rfl (fun x83 e84 => ?_)
        have t85 := ti_add e84 (by omega) (by omega)
        refine ur_go rfl ?_
        obtain ⟨f86, p87⟩ := mf_53 hO47 hc48
        have t88 := fI_of hc48 p87
        refine ur_putM (W := []) rfl hO47 hc48 (by decide) rfl (ms_53 (hO47.msh hc48)) (Or.inl rfl) (fun h90 hO90 hu90 d89 hc91 => ?_)
        have t92 := fI_of hc91 (gs_ne (gs_ne p28 (by decide)) (by decide))
        have t93 := fI_of hc91 (gs_ne (gs_ne p31 (by decide)) (by decide))
        have t94 := fI_of hc91 (gs_ne (gs_eq p44) (by decide))
        have t95 := fI_of hc91 (gs_eq p87)
        refine ur_ldA rfl rfl ?_
        refine ur_get rfl hc91 (gs_ne (gs_eq p44) (by decide)) ?_
        refine ur_ldA rfl rfl ?_
        refine ur_get rfl hc91 (gs_eq p87) ?_
        have z96 := any_r x83
        refine ur_if2 rfl (fun c97 => ?_) (fun c97 => ?_)
        · have t98 := lt_to c97
          refine ur_push rfl ?_
          obtain ⟨f99, p100, t101⟩ := mf_38 hO90 hc91
          have t102 := fI_of hc91 p100
          have t103 := fI_keep (k := 38) hO0 hO90 (hu21.tr (hu47.tr hu90)) rfl (by decide)
          exact ur_ret rfl rfl (hQ _ _ ⟨false, rfl, fun e => absurd e (by decide), fun _ => (by omega)⟩ hO90 (hu21.tr (hu47.tr hu90)))
        · have t104 := lt_no c97
          refine ur_push rfl ?_
          refine ur_go rfl ?_
          obtain ⟨f105, p106, t107⟩ := mf_38 hO90 hc91
          have t108 := fI_of hc91 p106
          have t109 := fI_keep (k := 38) hO0 hO90 (hu21.tr (hu47.tr hu90)) rfl (by decide)
          exact ur_ret rfl rfl (hQ _ _ ⟨true, rfl, fun _ => (by omega), fun e => absurd e (by decide)⟩ hO90 (hu21.tr (hu47.tr hu90)))
    · have t110 := le_no c41
      refine ur_ldI rfl rfl ?_
      refine ur_push rfl ?_
      refine ur_binV rfl (fun x111 e112 => ?_)
      have t113 := ti_sub e112 (by omega) (by omega)
      refine ur_go rfl ?_
      obtain ⟨f114, p115⟩ := mf_52 hO21 hc26
      have t116 := fI_of hc26 p115
      refine ur_putM (W := []) rfl hO21 hc26 (by decide) rfl (ms_52 (hO21.msh hc26)) (Or.inl rfl) (fun h118 hO118 hu118 d117 hc119 => ?_)
      have t120 := fI_of hc119 (gs_ne p28 (by decide))
      have t121 := fI_of hc119 (gs_ne p31 (by decide))
      have t122 := fI_of hc119 (gs_eq p115)
      refine ur_ldA rfl rfl ?_
      refine ur_ldA rfl rfl ?_
      refine ur_get rfl hc119 (gs_ne p31 (by decide)) ?_
      refine ur_ldI rfl rfl ?_
      refine ur_push rfl ?_
      refine ur_binV rfl (fun x123 e124 => ?_)
      have t125 := ti_add e124 (by omega) (by omega)
      have z126 := any_r f30
      have z127 := any_r x123
      refine ur_if2 rfl (fun c128 => ?_) (fun c128 => ?_)
      · have t129 := le_to c128
        refine ur_ldA rfl rfl ?_
        refine ur_get rfl hc119 (gs_ne p31 (by decide)) ?_
        obtain ⟨f130, p131⟩ := mf_53 hO118 hc119
        have t132 := fI_of hc119 p131
        refine ur_putM (W := []) rfl hO118 hc119 (by decide) rfl (ms_53 (hO118.msh hc119)) (Or.inl rfl) (fun h134 hO134 hu134 d133 hc135 => ?_)
        have t136 := fI_of hc135 (gs_ne (gs_ne p28 (by decide)) (by decide))
        have t137 := fI_of hc135 (gs_ne (gs_ne p31 (by decide)) (by decide))
        have t138 := fI_of hc135 (gs_ne (gs_eq p115) (by decide))
        have t139 := fI_of hc135 (gs_eq p131)
        refine ur_ldA rfl rfl ?_
        refine ur_get rfl hc135 (gs_ne (gs_eq p115) (by decide)) ?_
        refine ur_ldA rfl rfl ?_
        refine ur_get rfl hc135 (gs_eq p131) ?_
        have z140 := any_r x111
        refine ur_if2 rfl (fun c141 => ?_) (fun c141 => ?_)
        · have t142 := lt_to c141
          refine ur_push rfl ?_
          obtain ⟨f143, p144, t145⟩ := mf_38 hO134 hc135
          have t146 := fI_of hc135 p144
          have t147 := fI_keep (k := 38) hO0 hO134 (hu21.tr (hu118.tr hu134)) rfl (by decide)
          exact ur_ret rfl rfl (hQ _ _ ⟨false, rfl, fun e => absurd e (by decide), fun _ => (by omega)⟩ hO134 (hu21.tr (hu118.tr hu134)))
        · have t148 := lt_no c141
          refine ur_push rfl ?_
          refine ur_go rfl ?_
          obtain ⟨f149, p150, t151⟩ := mf_38 hO134 hc135
          have t152 := fI_of hc135 p150
          have t153 := fI_keep (k := 38) hO0 hO134 (hu21.tr (hu118.tr hu134)) rfl (by decide)
          exact ur_ret rfl rfl (hQ _ _ ⟨true, rfl, fun _ => (by omega), fun e => absurd e (by decide)⟩ hO134 (hu21.tr (hu118.tr hu134)))
      · have t154 := le_no c128
        refine ur_ldI rfl rfl ?_
        refine ur_push rfl ?_
        refine ur_binV rfl (fun x155 e156 => ?_)
        have t157 := ti_add e156 (by omega) (by omega)
        refine ur_go rfl ?_
        obtain ⟨f158, p159⟩ := mf_53 hO118 hc119
        have t160 := fI_of hc119 p159
        refine ur_putM (W := []) rfl hO118 hc119 (by decide) rfl (ms_53 (hO118.msh hc119)) (Or.inl rfl) (fun h162 hO162 hu162 d161 hc163 => ?_)
        have t164 := fI_of hc163 (gs_ne (gs_ne p28 (by decide)) (by decide))
        have t165 := fI_of hc163 (gs_ne (gs_ne p31 (by decide)) (by decide))
        have t166 := fI_of hc163 (gs_ne (gs_eq p115) (by decide))
        have t167 := fI_of hc163 (gs_eq p159)
        refine ur_ldA rfl rfl ?_
        refine ur_get rfl hc163 (gs_ne (gs_eq p115) (by decide)) ?_
        refine ur_ldA rfl rfl ?_
        refine ur_get rfl hc163 (gs_eq p159) ?_
        have z168 := any_r x111
        have z169 := any_r x155
        refine ur_if2 rfl (fun c170 => ?_) (fun c170 => ?_)
        · have t171 := lt_to c170
          refine ur_push rfl ?_
          obtain ⟨f172, p173, t174⟩ := mf_38 hO162 hc163
          have t175 := fI_of hc163 p173
          have t176 := fI_keep (k := 38) hO0 hO162 (hu21.tr (hu118.tr hu162)) rfl (by decide)
          exact ur_ret rfl rfl (hQ _ _ ⟨false, rfl, fun e => absurd e (by decide), fun _ => (by omega)⟩ hO162 (hu21.tr (hu118.tr hu162)))
        · have t177 := lt_no c170
          refine ur_push rfl ?_
          refine ur_go rfl ?_
          obtain ⟨f178, p179, t180⟩ := mf_38 hO162 hc163
          have t181 := fI_of hc163 p179
          have t182 := fI_keep (k := 38) hO0 hO162 (hu21.tr (hu118.tr hu162)) rfl (by decide)
          exact ur_ret rfl rfl (hQ _ _ ⟨true, rfl, fun _ => (by omega), fun e => absurd e (by decide)⟩ hO162 (hu21.tr (hu118.tr hu162)))
  · have t183 := ne_no c33
    refine ur_push rfl ?_
    obtain ⟨f184, p185, t186⟩ := mf_38 hO21 hc26
    have t187 := fI_of hc26 p185
    obtain ⟨f188, p189⟩ := mf_52 hO21 hc26
    have t190 := fI_of hc26 p189
    obtain ⟨f191, p192⟩ := mf_53 hO21 hc26
    have t193 := fI_of hc26 p192
    have t194 := fI_keep (k := 38) hO0 hO21 hu21 rfl (by decide)
    exact ur_ret rfl rfl (hQ _ _ ⟨false, rfl, fun e => absurd e (by decide), fun _ => (by omega)⟩ hO21 hu21)

set_option maxRecDepth 20000 in
set_option maxHeartbeats 4000000 in
theorem sd_X12_isTurned {d kc ks : Nat} {h0 : aH} {Q : Option aV → aH → Prop} {ls : List (List (Int × Int) × List (Int × Int))} {M : Nat → List (List (Int × Int) × List (Int × Int))} (hO0 : OK h0) (hX0 : SX h0) (a1 : Int32) (b1 : 0 ≤ a1.toInt ∧ a1.toInt ≤ 149) (a2 : Int32) (b2 : 0 ≤ a2.toInt ∧ a2.toInt ≤ 11) (a3 : Int32) (b3 : -20000 ≤ a3.toInt ∧ a3.toInt ≤ 1020000) (a4 : Int32) (b4 : -400 ≤ a4.toInt ∧ a4.toInt ≤ 400) (pre0 : SKm h0) (pre1 : a1.toInt < fI h0 38) (pre2 : a2.toInt < fI h0 4) (pre3 : RLn h0 0 ls) (pre4 : ∀ l ∈ ls, lnG l) (pre5 : RXF h0 M) (pre6 : SLm h0) (hQ : ∀ r h', (∃ q, r = some (.inl (bi q)) ∧ (q = true → TUq (nM h0 (rt h0 a1.toInt)) (fun i => VM h0 M (rt h0 a1.toInt) i + a4.toInt) (gI h0 102 (rt h0 a1.toInt)) (fun d => canP ls (gI h0 74 a2.toInt) (gI h0 76 a2.toInt) (gI h0 75 a2.toInt) (gI h0 77 a2.toInt) (gI h0 97 a1.toInt) a3.toInt d) (fun d => wsF (dgF (gI h0 74 a2.toInt) (gI h0 76 a2.toInt) (gI h0 75 a2.toInt) (d - a3.toInt)) d ↔ (gI h0 103 a1.toInt) = 1)) ∧ (q = false → ¬ (TUq (nM h0 (rt h0 a1.toInt)) (fun i => VM h0 M (rt h0 a1.toInt) i + a4.toInt) (gI h0 102 (rt h0 a1.toInt)) (fun d => canP ls (gI h0 74 a2.toInt) (gI h0 76 a2.toInt) (gI h0 75 a2.toInt) (gI h0 77 a2.toInt) (gI h0 97 a1.toInt) a3.toInt d) (fun d => wsF (dgF (gI h0 74 a2.toInt) (gI h0 76 a2.toInt) (gI h0 75 a2.toInt) (d - a3.toInt)) d ↔ (gI h0 103 a1.toInt) = 1)))) → OK h' → un [] h0 h' → Q r h') : uCall Mt (d + 6) 250 [(.inr (.inr (some 69))), (.inl a1), (.inl a2), (.inl a3), (.inl a4)] h0 kc ks Q := by
  have l_0 : ((0) : Int32).toInt = 0 := by decide
  have l_1 : ((1) : Int32).toInt = 1 := by decide
  refine uc_ink [some (.inr (.inr (some 69))), some (.inl a1), some (.inl a2), some (.inl a3), some (.inl a4), none, none, none] mt_250 (Nat.le_of_ble_eq_true rfl) rfl ?_
  obtain ⟨fs1, hc2⟩ := hO0.mod
  obtain ⟨f3, p4, t5⟩ := mf_4 hO0 hc2
  have t6 := fI_of hc2 p4
  obtain ⟨f7, p8, t9⟩ := mf_38 hO0 hc2
  have t10 := fI_of hc2 p8
  obtain ⟨f11, p12⟩ := mf_15 hO0 hc2
  have t13 := fI_of hc2 p12
  obtain ⟨f14, p15⟩ := mf_50 hO0 hc2
  have t16 := fI_of hc2 p15
  obtain ⟨f17, p18⟩ := mf_51 hO0 hc2
  have t19 := fI_of hc2 p18
  obtain ⟨f20, p21⟩ := mf_52 hO0 hc2
  have t22 := fI_of hc2 p21
  obtain ⟨f23, p24⟩ := mf_53 hO0 hc2
  have t25 := fI_of hc2 p24
  have tt26 := nM_r hO0 pre6 (rt h0 a1.toInt)
  refine ur_push rfl ?_
  refine ur_svIk [some (.inr (.inr (some 69))), some (.inl a1), some (.inl a2), some (.inl a3), some (.inl a4), some (.inl 0), none, none] rfl rfl ?_
  have L30 : ∀ (m31 : Nat) (x27 : Int32) (u28 : Option aV) (u29 : Option aV) (h33 : aH) , OK h33 → un [] h0 h33 → ((0 ≤ x27.toInt ∧ x27.toInt ≤ 2) ∧ x27.toInt ≤ (nM h0 (rt h0 a1.toInt))) → (TIq (fun i => VM h0 M (rt h0 a1.toInt) i + a4.toInt) (gI h0 102 (rt h0 a1.toInt)) (fun d => canP ls (gI h0 74 a2.toInt) (gI h0 76 a2.toInt) (gI h0 75 a2.toInt) (gI h0 77 a2.toInt) (gI h0 97 a1.toInt) a3.toInt d) (fun d => wsF (dgF (gI h0 74 a2.toInt) (gI h0 76 a2.toInt) (gI h0 75 a2.toInt) (d - a3.toInt)) d ↔ (gI h0 103 a1.toInt) = 1) (x27.toInt) (0)) → ((3 - x27.toInt).toNat) < m31 → uRun oX12_isTurned (uCall Mt (d + 5)) Q 3 ([some (.inr (.inr (some 69))), some (.inl a1), some (.inl a2), some (.inl a3), some (.inl a4), some (.inl x27), u28, u29], [], h33, kc, ks) := by
    intro m31
    induction m31 with
    | zero => intro x27 u28 u29 h33 hO33 hu33 iv35 px34 mm36; omega
    | succ m31 ih32 =>
      intro x27 u28 u29 h33 hO33 hu33 iv35 px34 mm36
      refine ur_ldI rfl rfl ?_
      refine ur_ldA rfl rfl ?_
      refine ur_ldI rfl rfl ?_
      obtain ⟨fs37, hc38⟩ := hO33.mod
      obtain ⟨f39, p40, t41⟩ := mf_38 hO33 hc38
      have t42 := fI_of hc38 p40
      have t43 := fI_keep (k := 4) hO0 hO33 hu33 rfl (by decide)
      have t44 := fI_keep (k := 38) hO0 hO33 hu33 rfl (by decide)
      refine ur_inl rfl (rcv_of hc38) (Nat.le_of_ble_eq_true rfl) (Nat.le_of_ble_eq_true rfl) (st_X12_spansOf hO33 (hX0.un hO0 hO33 hu33 (by decide)) _ (by show 0 ≤ a1.toInt ∧ a1.toInt ≤ 149; omega) (by omega) (pre6.un hO0 hO33 hu33 (by decide) (by decide)) (fun w45 hr46 => ?_))
      obtain ⟨x47, rfl, f48⟩ := hr46
      show uRun _ (uCall Mt _) _ 10 (_, [(.inl x47), (.inl x27)], _, _, _)
      have ns49 := f48.1
      rw [rt_c (CEm_of hO0 hX0) (KWm.un hO0 hu33 (by decide)) (by omega) (by omega), nM_c hO0 hu33] at ns49
      have z50 := any_r x27
      have z51 := any_r x47
      refine ur_if2 rfl (fun c52 => ?_) (fun c52 => ?_)
      · have t53 := le_to c52
        refine ur_push rfl ?_
        obtain ⟨f54, p55, t56⟩ := mf_4 hO33 hc38
        have t57 := fI_of hc38 p55
        obtain ⟨f58, p59⟩ := mf_15 hO33 hc38
        have t60 := fI_of hc38 p59
        obtain ⟨f61, p62⟩ := mf_50 hO33 hc38
        have t63 := fI_of hc38 p62
        obtain ⟨f64, p65⟩ := mf_51 hO33 hc38
        have t66 := fI_of hc38 p65
        obtain ⟨f67, p68⟩ := mf_52 hO33 hc38
        have t69 := fI_of hc38 p68
        obtain ⟨f70, p71⟩ := mf_53 hO33 hc38
        have t72 := fI_of hc38 p71
        exact ur_ret rfl rfl (hQ _ _ ⟨false, rfl, fun e => absurd e (by decide), fun _ => (px34.e (by omega))⟩ hO33 hu33)
      · have t73 := le_no c52
        refine ur_ldA rfl rfl ?_
        refine ur_ldI rfl rfl ?_
        refine ur_ldI rfl rfl ?_
        refine ur_ldI rfl rfl ?_
        refine ur_ldI rfl rfl ?_
        obtain ⟨f74, p75⟩ := mf_50 hO33 hc38
        have t76 := fI_of hc38 p75
        obtain ⟨f77, p78⟩ := mf_51 hO33 hc38
        have t79 := fI_of hc38 p78
        obtain ⟨f80, p81⟩ := mf_52 hO33 hc38
        have t82 := fI_of hc38 p81
        obtain ⟨f83, p84⟩ := mf_53 hO33 hc38
        have t85 := fI_of hc38 p84
        refine ur_inl rfl (rcv_of hc38) (Nat.le_of_ble_eq_true rfl) (Nat.le_of_ble_eq_true rfl) (sd_X12_findLook hO33 (hX0.un hO0 hO33 hu33 (by decide)) _ (by show 0 ≤ a1.toInt ∧ a1.toInt ≤ 149; omega) _ (by show 0 ≤ x27.toInt ∧ x27.toInt ≤ 1; omega) _ (by show -400 ≤ a4.toInt ∧ a4.toInt ≤ 400; omega) _ (by show -20000 ≤ a3.toInt ∧ a3.toInt ≤ 1020000; omega) (by omega) (pre5.un hO0 hu33) (pre6.un hO0 hO33 hu33 (by decide) (by decide)) (fun w86 h88 hr87 hO88 hv88 => ?_))
        have hu88 := hv88
        obtain ⟨b89, rfl, t90, t91⟩ := hr87
        show uRun _ (uCall Mt _) _ 23 (_, [(.inl (bi b89))], _, _, _)
        refine ur_neB rfl (fun c92 => ?_) (fun c92 => ?_)
        · have t93 := t90 c92
          clear t90 t91
          have lk94 := t93
          obtain ⟨fs95, hc96⟩ := hO88.mod
          obtain ⟨f97, p98⟩ := mf_52 hO88 hc96
          have t99 := fI_of hc96 p98
          obtain ⟨f100, p101⟩ := mf_53 hO88 hc96
          have t102 := fI_of hc96 p101
          rw [rt_c (CEm_of hO0 hX0) (KWm.un hO0 hu33 (by decide)) (by omega) (by omega), VM_c hO0 hu33, gI_keep (a := 102) (kd := 0) (n := 150) hO0 hu33 _ (by decide) rfl (by decide) rfl (by decide) (by decide)] at lk94
          refine ur_ldA rfl rfl ?_
          refine ur_get rfl hc96 p101 ?_
          refine ur_svIk [some (.inr (.inr (some 69))), some (.inl a1), some (.inl a2), some (.inl a3), some (.inl a4), some (.inl x27), some (.inl f100), u29] rfl rfl ?_
          have t103 : 0 ≤ f100.toInt ∧ f100.toInt ≤ 999999 := by omega
          refine ur_ldA rfl rfl ?_
          refine ur_get rfl hc96 p98 ?_
          refine ur_svIk [some (.inr (.inr (some 69))), some (.inl a1), some (.inl a2), some (.inl a3), some (.inl a4), some (.inl x27), some (.inl f100), some (.inl f97)] rfl rfl ?_
          obtain ⟨f108, p109, t110⟩ := mf_4 hO88 hc96
          have t111 := fI_of hc96 p109
          obtain ⟨f112, p113, t114⟩ := mf_38 hO88 hc96
          have t115 := fI_of hc96 p113
          obtain ⟨f116, p117⟩ := mf_15 hO88 hc96
          have t118 := fI_of hc96 p117
          obtain ⟨f119, p120⟩ := mf_50 hO88 hc96
          have t121 := fI_of hc96 p120
          obtain ⟨f122, p123⟩ := mf_51 hO88 hc96
          have t124 := fI_of hc96 p123
          have L105 : ∀ (m106 : Nat) (x104 : Int32) (h125 : aH) , OK h125 → un [] h88 h125 → ((0 ≤ x104.toInt ∧ x104.toInt ≤ 1000000) ∧ fI h88 52 ≤ x104.toInt) → (TIq (fun i => VM h0 M (rt h0 a1.toInt) i + a4.toInt) (gI h0 102 (rt h0 a1.toInt)) (fun d => canP ls (gI h0 74 a2.toInt) (gI h0 76 a2.toInt) (gI h0 75 a2.toInt) (gI h0 77 a2.toInt) (gI h0 97 a1.toInt) a3.toInt d) (fun d => wsF (dgF (gI h0 74 a2.toInt) (gI h0 76 a2.toInt) (gI h0 75 a2.toInt) (d - a3.toInt)) d ↔ (gI h0 103 a1.toInt) = 1) (x27.toInt) (x104.toInt)) → ((1000001 - x104.toInt).toNat) < m106 → uRun oX12_isTurned (uCall Mt (d + 5)) Q 41 ([some (.inr (.inr (some 69))), some (.inl a1), some (.inl a2), some (.inl a3), some (.inl a4), some (.inl x27), some (.inl f100), some (.inl x104)], [], h125, kc, ks) := by
            intro m106
            induction m106 with
            | zero => intro x104 h125 hO125 hu125 iv127 px126 mm128; omega
            | succ m106 ih107 =>
              intro x104 h125 hO125 hu125 iv127 px126 mm128
              refine ur_ldI rfl rfl ?_
              refine ur_ldI rfl rfl ?_
              have z129 := any_r x104
              have z130 := any_r f100
              refine ur_if2 rfl (fun c131 => ?_) (fun c131 => ?_)
              · have t132 := lt_to c131
                refine ur_incV (fun z => [some (.inr (.inr (some 69))), some (.inl a1), some (.inl a2), some (.inl a3), some (.inl a4), some (.inl z), some (.inl f100), some (.inl x104)]) rfl rfl (fun _ => rfl) (fun x133 e134 => ?_)
                have t135 := ti_add e134 (by omega) (by omega)
                refine ur_go rfl ?_
                obtain ⟨fs136, hc137⟩ := hO125.mod
                obtain ⟨f138, p139, t140⟩ := mf_4 hO125 hc137
                have t141 := fI_of hc137 p139
                obtain ⟨f142, p143, t144⟩ := mf_38 hO125 hc137
                have t145 := fI_of hc137 p143
                obtain ⟨f146, p147⟩ := mf_15 hO125 hc137
                have t148 := fI_of hc137 p147
                obtain ⟨f149, p150⟩ := mf_50 hO125 hc137
                have t151 := fI_of hc137 p150
                obtain ⟨f152, p153⟩ := mf_51 hO125 hc137
                have t154 := fI_of hc137 p153
                obtain ⟨f155, p156⟩ := mf_52 hO125 hc137
                have t157 := fI_of hc137 p156
                obtain ⟨f158, p159⟩ := mf_53 hO125 hc137
                have t160 := fI_of hc137 p159
                have z161 := any_r x133
                exact ih32 x133 _ _ _ hO125 (hu33.tr (hu88.tr hu125)) (by omega) (px126.o (fun d q p k => by have k1 := k.1; unfold SPi at q; (try dsimp only at q); omega) (by omega) rfl) (by omega)
              · have t162 := lt_no c131
                refine ur_ldA rfl rfl ?_
                refine ur_ldI rfl rfl ?_
                refine ur_ldI rfl rfl ?_
                refine ur_ldA rfl rfl ?_
                obtain ⟨fs163, hc164⟩ := hO125.mod
                refine ur_get rfl hc164 (mf_40 hO125 hc164) ?_
                refine ur_ldI rfl rfl ?_
                obtain ⟨xs166, hc165, hn167, he168⟩ := hO125.int (hO125.fix 97 (by decide) rfl)
                refine ur_aldV rfl hc165 hn167 (by omega) (fun x169 hx170 => ?_)
                have t171 := gI_of (j := a1) hc165 hx170
                have t172 := gI_keep (a := 97) (kd := 0) (n := 150) hO0 (hu33.tr (hu88.tr hu125)) (a1 : Int32).toInt (by decide) rfl (by decide) rfl (by decide) (by decide)
                have t173 : 0 ≤ x169.toInt ∧ x169.toInt ≤ 8 := he168 _ _ hx170
                refine ur_ldI rfl rfl ?_
                obtain ⟨f174, p175, t176⟩ := mf_4 hO125 hc164
                have t177 := fI_of hc164 p175
                obtain ⟨f178, p179⟩ := mf_15 hO125 hc164
                have t180 := fI_of hc164 p179
                obtain ⟨f181, p182⟩ := mf_16 hO125 hc164
                have t183 := fI_of hc164 p182
                obtain ⟨f184, p185⟩ := mf_17 hO125 hc164
                have t186 := fI_of hc164 p185
                have t187 := fI_keep (k := 4) hO0 hO125 (hu33.tr (hu88.tr hu125)) rfl (by decide)
                have t188 := fI_keep (k := 38) hO0 hO125 (hu33.tr (hu88.tr hu125)) rfl (by decide)
                refine ur_inl rfl (rcv_of hc164) (Nat.le_of_ble_eq_true rfl) (Nat.le_of_ble_eq_true rfl) (sd_X12_canSee hO125 (hX0.un hO0 hO125 (hu33.tr (hu88.tr hu125)) (by decide)) _ (by show 0 ≤ a2.toInt ∧ a2.toInt ≤ 11; omega) _ (by show -20000 ≤ a3.toInt ∧ a3.toInt ≤ 1020000; omega) _ (by show 0 ≤ x169.toInt ∧ x169.toInt ≤ 8; omega) _ (by show 0 ≤ x104.toInt ∧ x104.toInt ≤ 999999; omega) (((pre0.un hO0 hO33 hu33 (by decide)).un hO33 hO88 hv88 (by decide)).un hO88 hO125 hu125 (by decide)) (by omega) (pre3.keep (KN.un hO0 (hu33.tr (hu88.tr hu125)) (by decide) (by decide) (by decide) (by decide) (by decide)) (by decide)) pre4 (fun w189 h192 hr190 hO192 hv192 hp191 => ?_))
                have hu192 := hv192
                obtain ⟨b193, rfl, t194, t195⟩ := hr190
                show uRun _ (uCall Mt _) _ 62 (_, [(.inl (bi b193))], _, _, _)
                refine ur_eqB rfl (fun c196 => ?_) (fun c196 => ?_)
                · have t197 := t195 c196
                  clear t194 t195
                  have C198 := t197
                  rw [gI_keep (a := 74) (kd := 0) (n := 12) hO0 (hu33.tr (hu88.tr hu125)) a2.toInt (by decide) rfl (by decide) rfl (by decide) (by decide), gI_keep (a := 76) (kd := 0) (n := 12) hO0 (hu33.tr (hu88.tr hu125)) a2.toInt (by decide) rfl (by decide) rfl (by decide) (by decide), gI_keep (a := 75) (kd := 0) (n := 12) hO0 (hu33.tr (hu88.tr hu125)) a2.toInt (by decide) rfl (by decide) rfl (by decide) (by decide), gI_keep (a := 77) (kd := 0) (n := 12) hO0 (hu33.tr (hu88.tr hu125)) a2.toInt (by decide) rfl (by decide) rfl (by decide) (by decide), show x169.toInt = gI h0 97 a1.toInt by omega] at C198
                  refine ur_incV (fun z => [some (.inr (.inr (some 69))), some (.inl a1), some (.inl a2), some (.inl a3), some (.inl a4), some (.inl x27), some (.inl f100), some (.inl z)]) rfl rfl (fun _ => rfl) (fun x199 e200 => ?_)
                  have t201 := ti_add e200 (by omega) (by omega)
                  refine ur_go rfl ?_
                  obtain ⟨fs202, hc203⟩ := hO192.mod
                  obtain ⟨f204, p205, t206⟩ := mf_4 hO192 hc203
                  have t207 := fI_of hc203 p205
                  obtain ⟨f208, p209, t210⟩ := mf_38 hO192 hc203
                  have t211 := fI_of hc203 p209
                  obtain ⟨f212, p213⟩ := mf_15 hO192 hc203
                  have t214 := fI_of hc203 p213
                  obtain ⟨f215, p216⟩ := mf_50 hO192 hc203
                  have t217 := fI_of hc203 p216
                  obtain ⟨f218, p219⟩ := mf_51 hO192 hc203
                  have t220 := fI_of hc203 p219
                  obtain ⟨f221, p222⟩ := mf_52 hO192 hc203
                  have t223 := fI_of hc203 p222
                  obtain ⟨f224, p225⟩ := mf_53 hO192 hc203
                  have t226 := fI_of hc203 p225
                  have z227 := any_r x199
                  exact ih107 x199 _ hO192 (hu125.tr hu192) (by omega) (px126.s (fun q => absurd q C198) (by omega)) (by omega)
                · have t228 := t194 c196
                  clear t194 t195
                  have C229 := t228
                  rw [gI_keep (a := 74) (kd := 0) (n := 12) hO0 (hu33.tr (hu88.tr hu125)) a2.toInt (by decide) rfl (by decide) rfl (by decide) (by decide), gI_keep (a := 76) (kd := 0) (n := 12) hO0 (hu33.tr (hu88.tr hu125)) a2.toInt (by decide) rfl (by decide) rfl (by decide) (by decide), gI_keep (a := 75) (kd := 0) (n := 12) hO0 (hu33.tr (hu88.tr hu125)) a2.toInt (by decide) rfl (by decide) rfl (by decide) (by decide), gI_keep (a := 77) (kd := 0) (n := 12) hO0 (hu33.tr (hu88.tr hu125)) a2.toInt (by decide) rfl (by decide) rfl (by decide) (by decide), show x169.toInt = gI h0 97 a1.toInt by omega] at C229
                  have tt230 := C229.1
                  have so231 := hp191.2 (by omega)
                  rw [gI_keep (a := 74) (kd := 0) (n := 12) hO0 (hu33.tr (hu88.tr hu125)) a2.toInt (by decide) rfl (by decide) rfl (by decide) (by decide), gI_keep (a := 76) (kd := 0) (n := 12) hO0 (hu33.tr (hu88.tr hu125)) a2.toInt (by decide) rfl (by decide) rfl (by decide) (by decide), gI_keep (a := 75) (kd := 0) (n := 12) hO0 (hu33.tr (hu88.tr hu125)) a2.toInt (by decide) rfl (by decide) rfl (by decide) (by decide)] at so231
                  have tt232 := so231.2.1
                  obtain ⟨fs233, hc234⟩ := hO192.mod
                  obtain ⟨f235, p236⟩ := mf_15 hO192 hc234
                  have t237 := fI_of hc234 p236
                  refine ur_ldA rfl rfl ?_
                  refine ur_ldI rfl rfl ?_
                  have t238 := fI_keep (k := 4) hO0 hO192 (hu33.tr (hu88.tr (hu125.tr hu192))) rfl (by decide)
                  have t239 := fI_keep (k := 38) hO0 hO192 (hu33.tr (hu88.tr (hu125.tr hu192))) rfl (by decide)
                  refine ur_inl rfl (rcv_of hc234) (Nat.le_of_ble_eq_true rfl) (Nat.le_of_ble_eq_true rfl) (sd_X12_isWest hO192 _ (by show 0 ≤ x104.toInt ∧ x104.toInt ≤ 999999; omega) (by omega) (fun w240 hr241 => ?_))
                  obtain ⟨b242, rfl, t243, t244⟩ := hr241
                  show uRun _ (uCall Mt _) _ 71 (_, [(.inl (bi b242))], _, _, _)
                  refine ur_ldA rfl rfl ?_
                  refine ur_get rfl hc234 (mf_46 hO192 hc234) ?_
                  refine ur_ldI rfl rfl ?_
                  obtain ⟨xs246, hc245, hn247, he248⟩ := hO192.int (hO192.fix 103 (by decide) rfl)
                  refine ur_aldV rfl hc245 hn247 (by omega) (fun x249 hx250 => ?_)
                  have t251 := gI_of (j := a1) hc245 hx250
                  have t252 := gI_keep (a := 103) (kd := 0) (n := 150) hO0 (hu33.tr (hu88.tr (hu125.tr hu192))) (a1 : Int32).toInt (by decide) rfl (by decide) rfl (by decide) (by decide)
                  have t253 : -1 ≤ x249.toInt ∧ x249.toInt ≤ 149 := he248 _ _ hx250
                  refine ur_push rfl ?_
                  refine ur_if2 rfl (fun c254 => ?_) (fun c254 => ?_)
                  · have t255 := ne_to c254
                    refine ur_push rfl ?_
                    refine ur_if2 rfl (fun c256 => ?_) (fun c256 => ?_)
                    · have t257 := eq_to c256
                      have t258 := t244 (bz_0 t257)
                      refine ur_incV (fun z => [some (.inr (.inr (some 69))), some (.inl a1), some (.inl a2), some (.inl a3), some (.inl a4), some (.inl x27), some (.inl f100), some (.inl z)]) rfl rfl (fun _ => rfl) (fun x259 e260 => ?_)
                      have t261 := ti_add e260 (by omega) (by omega)
                      refine ur_go rfl ?_
                      obtain ⟨f262, p263, t264⟩ := mf_4 hO192 hc234
                      have t265 := fI_of hc234 p263
                      obtain ⟨f266, p267, t268⟩ := mf_38 hO192 hc234
                      have t269 := fI_of hc234 p267
                      obtain ⟨f270, p271⟩ := mf_50 hO192 hc234
                      have t272 := fI_of hc234 p271
                      obtain ⟨f273, p274⟩ := mf_51 hO192 hc234
                      have t275 := fI_of hc234 p274
                      obtain ⟨f276, p277⟩ := mf_52 hO192 hc234
                      have t278 := fI_of hc234 p277
                      obtain ⟨f279, p280⟩ := mf_53 hO192 hc234
                      have t281 := fI_of hc234 p280
                      have z282 := any_r x259
                      exact ih107 x259 _ hO192 (hu125.tr hu192) (by omega) (px126.s (fun _ => ⟨fun q => absurd q (by have q := t258; rw [so231.1] at q; exact q), fun m => by exfalso; omega⟩) (by omega)) (by omega)
                    · have t283 := eq_no c256
                      have t284 := t243 (bz_n0 t283)
                      refine ur_push rfl ?_
                      obtain ⟨f285, p286, t287⟩ := mf_4 hO192 hc234
                      have t288 := fI_of hc234 p286
                      obtain ⟨f289, p290, t291⟩ := mf_38 hO192 hc234
                      have t292 := fI_of hc234 p290
                      obtain ⟨f293, p294⟩ := mf_50 hO192 hc234
                      have t295 := fI_of hc234 p294
                      obtain ⟨f296, p297⟩ := mf_51 hO192 hc234
                      have t298 := fI_of hc234 p297
                      obtain ⟨f299, p300⟩ := mf_52 hO192 hc234
                      have t301 := fI_of hc234 p300
                      obtain ⟨f302, p303⟩ := mf_53 hO192 hc234
                      have t304 := fI_of hc234 p303
                      exact ur_ret rfl rfl (hQ _ _ ⟨true, rfl, fun _ => ⟨x104.toInt, ⟨x27.toInt, by omega, (by unfold SPi; (try dsimp only); omega)⟩, C229, (fun H => absurd (H.mp (by have q := t284; rw [so231.1] at q; exact q)) (by omega))⟩, fun e => absurd e (by decide)⟩ hO192 (hu33.tr (hu88.tr (hu125.tr hu192))))
                  · have t305 := ne_no c254
                    refine ur_push rfl ?_
                    refine ur_go rfl ?_
                    refine ur_if2 rfl (fun c306 => ?_) (fun c306 => ?_)
                    · have t307 := eq_to c306
                      have t308 := t243 (bz_1 t307)
                      refine ur_incV (fun z => [some (.inr (.inr (some 69))), some (.inl a1), some (.inl a2), some (.inl a3), some (.inl a4), some (.inl x27), some (.inl f100), some (.inl z)]) rfl rfl (fun _ => rfl) (fun x309 e310 => ?_)
                      have t311 := ti_add e310 (by omega) (by omega)
                      refine ur_go rfl ?_
                      obtain ⟨f312, p313, t314⟩ := mf_4 hO192 hc234
                      have t315 := fI_of hc234 p313
                      obtain ⟨f316, p317, t318⟩ := mf_38 hO192 hc234
                      have t319 := fI_of hc234 p317
                      obtain ⟨f320, p321⟩ := mf_50 hO192 hc234
                      have t322 := fI_of hc234 p321
                      obtain ⟨f323, p324⟩ := mf_51 hO192 hc234
                      have t325 := fI_of hc234 p324
                      obtain ⟨f326, p327⟩ := mf_52 hO192 hc234
                      have t328 := fI_of hc234 p327
                      obtain ⟨f329, p330⟩ := mf_53 hO192 hc234
                      have t331 := fI_of hc234 p330
                      have z332 := any_r x309
                      exact ih107 x309 _ hO192 (hu125.tr hu192) (by omega) (px126.s (fun _ => ⟨fun _ => by omega, fun _ => (by have q := t308; rw [so231.1] at q; exact q)⟩) (by omega)) (by omega)
                    · have t333 := eq_no c306
                      have t334 := t244 (bz_n1 t333)
                      refine ur_push rfl ?_
                      obtain ⟨f335, p336, t337⟩ := mf_4 hO192 hc234
                      have t338 := fI_of hc234 p336
                      obtain ⟨f339, p340, t341⟩ := mf_38 hO192 hc234
                      have t342 := fI_of hc234 p340
                      obtain ⟨f343, p344⟩ := mf_50 hO192 hc234
                      have t345 := fI_of hc234 p344
                      obtain ⟨f346, p347⟩ := mf_51 hO192 hc234
                      have t348 := fI_of hc234 p347
                      obtain ⟨f349, p350⟩ := mf_52 hO192 hc234
                      have t351 := fI_of hc234 p350
                      obtain ⟨f352, p353⟩ := mf_53 hO192 hc234
                      have t354 := fI_of hc234 p353
                      exact ur_ret rfl rfl (hQ _ _ ⟨true, rfl, fun _ => ⟨x104.toInt, ⟨x27.toInt, by omega, (by unfold SPi; (try dsimp only); omega)⟩, C229, (fun H => absurd (H.mpr (by omega)) (by have q := t334; rw [so231.1] at q; exact q))⟩, fun e => absurd e (by decide)⟩ hO192 (hu33.tr (hu88.tr (hu125.tr hu192))))
          have z355 := any_r f97
          exact L105 _ f97 _ hO88 un.rf (by omega) (px34.i (fun d q p k => by have k1 := k.1; unfold SPi at q; (try dsimp only at q); omega)) (Nat.lt_succ_self _)
        · have t356 := t91 c92
          clear t90 t91
          have lk357 := t356
          obtain ⟨fs358, hc359⟩ := hO88.mod
          obtain ⟨f360, p361⟩ := mf_52 hO88 hc359
          have t362 := fI_of hc359 p361
          obtain ⟨f363, p364⟩ := mf_53 hO88 hc359
          have t365 := fI_of hc359 p364
          rw [rt_c (CEm_of hO0 hX0) (KWm.un hO0 hu33 (by decide)) (by omega) (by omega), VM_c hO0 hu33, gI_keep (a := 102) (kd := 0) (n := 150) hO0 hu33 _ (by decide) rfl (by decide) rfl (by decide) (by decide)] at lk357
          refine ur_go rfl ?_
          refine ur_incV (fun z => [some (.inr (.inr (some 69))), some (.inl a1), some (.inl a2), some (.inl a3), some (.inl a4), some (.inl z), u28, u29]) rfl rfl (fun _ => rfl) (fun x366 e367 => ?_)
          have t368 := ti_add e367 (by omega) (by omega)
          refine ur_go rfl ?_
          obtain ⟨f369, p370, t371⟩ := mf_4 hO88 hc359
          have t372 := fI_of hc359 p370
          obtain ⟨f373, p374, t375⟩ := mf_38 hO88 hc359
          have t376 := fI_of hc359 p374
          obtain ⟨f377, p378⟩ := mf_15 hO88 hc359
          have t379 := fI_of hc359 p378
          obtain ⟨f380, p381⟩ := mf_50 hO88 hc359
          have t382 := fI_of hc359 p381
          obtain ⟨f383, p384⟩ := mf_51 hO88 hc359
          have t385 := fI_of hc359 p384
          have z386 := any_r x366
          exact ih32 x366 _ _ _ hO88 (hu33.tr hu88) (by omega) (px34.o (fun d q _ k => by have k1 := k.1; unfold SPi at q; (try dsimp only at q); omega) (by omega) rfl) (by omega)
  exact L30 _ 0 (none) (none) _ hO0 un.rf (by omega) (TIq.z (by omega) rfl) (Nat.lt_succ_self _)

set_option maxRecDepth 20000 in
set_option maxHeartbeats 4000000 in
theorem sd_X12_fitDay {d kc ks : Nat} {h0 : aH} {Q : Option aV → aH → Prop} {ls : List (List (Int × Int) × List (Int × Int))} {l1 : List (List (Int × Int) × List (Int × Int))} {M : Nat → List (List (Int × Int) × List (Int × Int))} (hO0 : OK h0) (hX0 : SX h0) (a1 : Int32) (b1 : 0 ≤ a1.toInt ∧ a1.toInt ≤ 149) (a2 : Int32) (b2 : 0 ≤ a2.toInt ∧ a2.toInt ≤ 11) (a3 : Int32) (b3 : -20000 ≤ a3.toInt ∧ a3.toInt ≤ 1020000) (a4 : Int32) (b4 : -400 ≤ a4.toInt ∧ a4.toInt ≤ 400) (a5 : Int32) (b5 : 0 ≤ a5.toInt ∧ a5.toInt ≤ 1000000) (pre0 : SKm h0) (pre1 : a1.toInt < fI h0 38) (pre2 : a2.toInt < fI h0 4) (pre3 : RLn h0 0 ls) (pre4 : ∀ l ∈ ls, lnG l) (pre5 : RXF h0 M) (pre6 : SLm h0) (pre7 : RLn h0 1 l1) (pre8 : ∀ l ∈ l1, lnG l) (pre9 : LDm h0) (hQ : ∀ r h', (∃ x : Int32, r = some (.inl x) ∧ ((FTD (nM h0 (rt h0 a1.toInt)) (fun i => VM h0 M (rt h0 a1.toInt) i + a4.toInt) (gI h0 102 (rt h0 a1.toInt)) (fun d => canP ls (gI h0 74 a2.toInt) (gI h0 76 a2.toInt) (gI h0 75 a2.toInt) (gI h0 77 a2.toInt) (gI h0 97 a1.toInt) a3.toInt d) (fun d => asP l1 (gI h0 96 a1.toInt) (gI h0 103 a1.toInt) (gI h0 97 a1.toInt) (gI h0 74 a2.toInt) (gI h0 76 a2.toInt) (gI h0 75 a2.toInt) (gI h0 77 a2.toInt) (d - a3.toInt) d) (fun d => a5.toInt ≤ d) (gI h0 96 a1.toInt) (x.toInt)) ∧ -1 ≤ x.toInt ∧ x.toInt ≤ 999999)) → OK h' → un [] h0 h' → Q r h') : uCall Mt (d + 7) 251 [(.inr (.inr (some 69))), (.inl a1), (.inl a2), (.inl a3), (.inl a4), (.inl a5)] h0 kc ks Q := by
  have l_m1 : ((-1) : Int32).toInt = -1 := by decide
  have l_0 : ((0) : Int32).toInt = 0 := by decide
  have l_1 : ((1) : Int32).toInt = 1 := by decide
  have l_7 : ((7) : Int32).toInt = 7 := by decide
  refine uc_ink [some (.inr (.inr (some 69))), some (.inl a1), some (.inl a2), some (.inl a3), some (.inl a4), some (.inl a5), none, none, none, none] mt_251 (Nat.le_of_ble_eq_true rfl) rfl ?_
  obtain ⟨fs1, hc2⟩ := hO0.mod
  obtain ⟨f3, p4, t5⟩ := mf_4 hO0 hc2
  have t6 := fI_of hc2 p4
  obtain ⟨f7, p8, t9⟩ := mf_38 hO0 hc2
  have t10 := fI_of hc2 p8
  obtain ⟨f11, p12⟩ := mf_15 hO0 hc2
  have t13 := fI_of hc2 p12
  obtain ⟨f14, p15⟩ := mf_16 hO0 hc2
  have t16 := fI_of hc2 p15
  obtain ⟨f17, p18⟩ := mf_17 hO0 hc2
  have t19 := fI_of hc2 p18
  obtain ⟨f20, p21⟩ := mf_50 hO0 hc2
  have t22 := fI_of hc2 p21
  obtain ⟨f23, p24⟩ := mf_51 hO0 hc2
  have t25 := fI_of hc2 p24
  obtain ⟨f26, p27⟩ := mf_52 hO0 hc2
  have t28 := fI_of hc2 p27
  obtain ⟨f29, p30⟩ := mf_53 hO0 hc2
  have t31 := fI_of hc2 p30
  have tt32 := nM_r hO0 pre6 (rt h0 a1.toInt)
  refine ur_push rfl ?_
  refine ur_svIk [some (.inr (.inr (some 69))), some (.inl a1), some (.inl a2), some (.inl a3), some (.inl a4), some (.inl a5), some (.inl (-1)), none, none, none] rfl rfl ?_
  refine ur_push rfl ?_
  refine ur_svIk [some (.inr (.inr (some 69))), some (.inl a1), some (.inl a2), some (.inl a3), some (.inl a4), some (.inl a5), some (.inl (-1)), some (.inl 0), none, none] rfl rfl ?_
  have L37 : ∀ (m38 : Nat) (x33 : Int32) (x34 : Int32) (u35 : Option aV) (u36 : Option aV) (h40 : aH) , OK h40 → un [] h0 h40 → ((0 ≤ x34.toInt ∧ x34.toInt ≤ 2) ∧ (-1 ≤ x33.toInt ∧ x33.toInt ≤ 999999) ∧ x34.toInt ≤ (nM h0 (rt h0 a1.toInt))) → (FIq (nM h0 (rt h0 a1.toInt)) (fun i => VM h0 M (rt h0 a1.toInt) i + a4.toInt) (gI h0 102 (rt h0 a1.toInt)) (fun d => canP ls (gI h0 74 a2.toInt) (gI h0 76 a2.toInt) (gI h0 75 a2.toInt) (gI h0 77 a2.toInt) (gI h0 97 a1.toInt) a3.toInt d) (fun d => asP l1 (gI h0 96 a1.toInt) (gI h0 103 a1.toInt) (gI h0 97 a1.toInt) (gI h0 74 a2.toInt) (gI h0 76 a2.toInt) (gI h0 75 a2.toInt) (gI h0 77 a2.toInt) (d - a3.toInt) d) (fun d => a5.toInt ≤ d) 0 (x34.toInt) (0) (x33.toInt) 1) → ((3 - x34.toInt).toNat) < m38 → uRun oX12_fitDay (uCall Mt (d + 6)) Q 6 ([some (.inr (.inr (some 69))), some (.inl a1), some (.inl a2), some (.inl a3), some (.inl a4), some (.inl a5), some (.inl x33), some (.inl x34), u35, u36], [], h40, kc, ks) := by
    intro m38
    induction m38 with
    | zero => intro x33 x34 u35 u36 h40 hO40 hu40 iv42 px41 mm43; omega
    | succ m38 ih39 =>
      intro x33 x34 u35 u36 h40 hO40 hu40 iv42 px41 mm43
      refine ur_ldI rfl rfl ?_
      refine ur_ldA rfl rfl ?_
      refine ur_ldI rfl rfl ?_
      obtain ⟨fs44, hc45⟩ := hO40.mod
      obtain ⟨f46, p47, t48⟩ := mf_38 hO40 hc45
      have t49 := fI_of hc45 p47
      have t50 := fI_keep (k := 4) hO0 hO40 hu40 rfl (by decide)
      have t51 := fI_keep (k := 38) hO0 hO40 hu40 rfl (by decide)
      refine ur_inl rfl (rcv_of hc45) (Nat.le_of_ble_eq_true rfl) (Nat.le_of_ble_eq_true rfl) (st_X12_spansOf hO40 (hX0.un hO0 hO40 hu40 (by decide)) _ (by show 0 ≤ a1.toInt ∧ a1.toInt ≤ 149; omega) (by omega) (pre6.un hO0 hO40 hu40 (by decide) (by decide)) (fun w52 hr53 => ?_))
      obtain ⟨x54, rfl, f55⟩ := hr53
      show uRun _ (uCall Mt _) _ 13 (_, [(.inl x54), (.inl x34)], _, _, _)
      have ns56 := f55.1
      rw [rt_c (CEm_of hO0 hX0) (KWm.un hO0 hu40 (by decide)) (by omega) (by omega), nM_c hO0 hu40] at ns56
      have z57 := any_r x34
      have z58 := any_r x54
      refine ur_if2 rfl (fun c59 => ?_) (fun c59 => ?_)
      · have t60 := le_to c59
        refine ur_ldI rfl rfl ?_
        refine ur_if1 rfl (fun c61 => ?_) (fun c61 => ?_)
        · have t62 := lt_to c61
          refine ur_ldI rfl rfl ?_
          obtain ⟨f63, p64, t65⟩ := mf_4 hO40 hc45
          have t66 := fI_of hc45 p64
          obtain ⟨f67, p68⟩ := mf_15 hO40 hc45
          have t69 := fI_of hc45 p68
          obtain ⟨f70, p71⟩ := mf_16 hO40 hc45
          have t72 := fI_of hc45 p71
          obtain ⟨f73, p74⟩ := mf_17 hO40 hc45
          have t75 := fI_of hc45 p74
          obtain ⟨f76, p77⟩ := mf_50 hO40 hc45
          have t78 := fI_of hc45 p77
          obtain ⟨f79, p80⟩ := mf_51 hO40 hc45
          have t81 := fI_of hc45 p80
          obtain ⟨f82, p83⟩ := mf_52 hO40 hc45
          have t84 := fI_of hc45 p83
          obtain ⟨f85, p86⟩ := mf_53 hO40 hc45
          have t87 := fI_of hc45 p86
          exact ur_ret rfl rfl (hQ _ _ ⟨_, rfl, ⟨(px41.e (y := x33.toInt) (by omega) (Or.inl ⟨by decide, rfl⟩)).tw (B := (fun d => wsF (dgF (gI h0 74 a2.toInt) (gI h0 76 a2.toInt) (gI h0 75 a2.toInt) (d - a3.toInt)) d ↔ (gI h0 103 a1.toInt) = 1)) (fun q d _ => asP_7 q) (by first | exact Or.inl ⟨by omega, by omega⟩ | exact Or.inr (Or.inl ⟨by omega, by omega⟩)), by omega⟩⟩ hO40 hu40)
        · have t88 := lt_no c61
          refine ur_ldA rfl rfl ?_
          refine ur_get rfl hc45 (mf_39 hO40 hc45) ?_
          refine ur_ldI rfl rfl ?_
          obtain ⟨xs90, hc89, hn91, he92⟩ := hO40.int (hO40.fix 96 (by decide) rfl)
          refine ur_aldV rfl hc89 hn91 (by omega) (fun x93 hx94 => ?_)
          have t95 := gI_of (j := a1) hc89 hx94
          have t96 := gI_keep (a := 96) (kd := 0) (n := 150) hO0 hu40 (a1 : Int32).toInt (by decide) rfl (by decide) rfl (by decide) (by decide)
          have t97 : 0 ≤ x93.toInt ∧ x93.toInt ≤ 7 := he92 _ _ hx94
          refine ur_push rfl ?_
          refine ur_if2 rfl (fun c98 => ?_) (fun c98 => ?_)
          · have t99 := ne_to c98
            refine ur_ldI rfl rfl ?_
            obtain ⟨f100, p101, t102⟩ := mf_4 hO40 hc45
            have t103 := fI_of hc45 p101
            obtain ⟨f104, p105⟩ := mf_15 hO40 hc45
            have t106 := fI_of hc45 p105
            obtain ⟨f107, p108⟩ := mf_16 hO40 hc45
            have t109 := fI_of hc45 p108
            obtain ⟨f110, p111⟩ := mf_17 hO40 hc45
            have t112 := fI_of hc45 p111
            obtain ⟨f113, p114⟩ := mf_50 hO40 hc45
            have t115 := fI_of hc45 p114
            obtain ⟨f116, p117⟩ := mf_51 hO40 hc45
            have t118 := fI_of hc45 p117
            obtain ⟨f119, p120⟩ := mf_52 hO40 hc45
            have t121 := fI_of hc45 p120
            obtain ⟨f122, p123⟩ := mf_53 hO40 hc45
            have t124 := fI_of hc45 p123
            exact ur_ret rfl rfl (hQ _ _ ⟨_, rfl, ⟨(px41.e (y := x33.toInt) (by omega) (Or.inl ⟨by decide, rfl⟩)).tw (B := (fun d => wsF (dgF (gI h0 74 a2.toInt) (gI h0 76 a2.toInt) (gI h0 75 a2.toInt) (d - a3.toInt)) d ↔ (gI h0 103 a1.toInt) = 1)) (fun q d _ => asP_7 q) (by first | exact Or.inl ⟨by omega, by omega⟩ | exact Or.inr (Or.inl ⟨by omega, by omega⟩)), by omega⟩⟩ hO40 hu40)
          · have t125 := ne_no c98
            refine ur_ldA rfl rfl ?_
            refine ur_ldI rfl rfl ?_
            refine ur_ldI rfl rfl ?_
            refine ur_ldI rfl rfl ?_
            refine ur_ldI rfl rfl ?_
            obtain ⟨f126, p127, t128⟩ := mf_4 hO40 hc45
            have t129 := fI_of hc45 p127
            obtain ⟨f130, p131⟩ := mf_15 hO40 hc45
            have t132 := fI_of hc45 p131
            obtain ⟨f133, p134⟩ := mf_50 hO40 hc45
            have t135 := fI_of hc45 p134
            obtain ⟨f136, p137⟩ := mf_51 hO40 hc45
            have t138 := fI_of hc45 p137
            obtain ⟨f139, p140⟩ := mf_52 hO40 hc45
            have t141 := fI_of hc45 p140
            obtain ⟨f142, p143⟩ := mf_53 hO40 hc45
            have t144 := fI_of hc45 p143
            refine ur_inl rfl (rcv_of hc45) (Nat.le_of_ble_eq_true rfl) (Nat.le_of_ble_eq_true rfl) (sd_X12_isTurned hO40 (hX0.un hO0 hO40 hu40 (by decide)) _ (by show 0 ≤ a1.toInt ∧ a1.toInt ≤ 149; omega) _ (by show 0 ≤ a2.toInt ∧ a2.toInt ≤ 11; omega) _ (by show -20000 ≤ a3.toInt ∧ a3.toInt ≤ 1020000; omega) _ (by show -400 ≤ a4.toInt ∧ a4.toInt ≤ 400; omega) (pre0.un hO0 hO40 hu40 (by decide)) (by omega) (by omega) (pre3.keep (KN.un hO0 hu40 (by decide) (by decide) (by decide) (by decide) (by decide)) (by decide)) pre4 (pre5.un hO0 hu40) (pre6.un hO0 hO40 hu40 (by decide) (by decide)) (fun w145 h147 hr146 hO147 hv147 => ?_))
            have hu147 := hv147
            obtain ⟨b148, rfl, t149, t150⟩ := hr146
            show uRun _ (uCall Mt _) _ 130 (_, [(.inl (bi b148))], _, _, _)
            refine ur_neB rfl (fun c151 => ?_) (fun c151 => ?_)
            · have t152 := t149 c151
              clear t149 t150
              have tu153 := t152
              rw [rt_c (CEm_of hO0 hX0) (KWm.un hO0 hu40 (by decide)) (by omega) (by omega), VM_f hO0 hu40, gI_keep (a := 102) (kd := 0) (n := 150) hO0 hu40 _ (by decide) rfl (by decide) rfl (by decide) (by decide), nM_c hO0 hu40, gI_keep (a := 74) (kd := 0) (n := 12) hO0 hu40 a2.toInt (by decide) rfl (by decide) rfl (by decide) (by decide), gI_keep (a := 76) (kd := 0) (n := 12) hO0 hu40 a2.toInt (by decide) rfl (by decide) rfl (by decide) (by decide), gI_keep (a := 75) (kd := 0) (n := 12) hO0 hu40 a2.toInt (by decide) rfl (by decide) rfl (by decide) (by decide), gI_keep (a := 77) (kd := 0) (n := 12) hO0 hu40 a2.toInt (by decide) rfl (by decide) rfl (by decide) (by decide), gI_keep (a := 97) (kd := 0) (n := 150) hO0 hu40 a1.toInt (by decide) rfl (by decide) rfl (by decide) (by decide), gI_keep (a := 103) (kd := 0) (n := 150) hO0 hu40 a1.toInt (by decide) rfl (by decide) rfl (by decide) (by decide)] at tu153
              refine ur_ldI rfl rfl ?_
              obtain ⟨fs154, hc155⟩ := hO147.mod
              obtain ⟨f156, p157, t158⟩ := mf_4 hO147 hc155
              have t159 := fI_of hc155 p157
              obtain ⟨f160, p161, t162⟩ := mf_38 hO147 hc155
              have t163 := fI_of hc155 p161
              obtain ⟨f164, p165⟩ := mf_15 hO147 hc155
              have t166 := fI_of hc155 p165
              obtain ⟨f167, p168⟩ := mf_16 hO147 hc155
              have t169 := fI_of hc155 p168
              obtain ⟨f170, p171⟩ := mf_17 hO147 hc155
              have t172 := fI_of hc155 p171
              obtain ⟨f173, p174⟩ := mf_50 hO147 hc155
              have t175 := fI_of hc155 p174
              obtain ⟨f176, p177⟩ := mf_51 hO147 hc155
              have t178 := fI_of hc155 p177
              obtain ⟨f179, p180⟩ := mf_52 hO147 hc155
              have t181 := fI_of hc155 p180
              obtain ⟨f182, p183⟩ := mf_53 hO147 hc155
              have t184 := fI_of hc155 p183
              have t185 := fI_keep (k := 4) hO0 hO147 (hu40.tr hu147) rfl (by decide)
              have t186 := fI_keep (k := 38) hO0 hO147 (hu40.tr hu147) rfl (by decide)
              exact ur_ret rfl rfl (hQ _ _ ⟨_, rfl, ⟨(px41.e (y := x33.toInt) (by omega) (Or.inl ⟨by decide, rfl⟩)).tw (B := (fun d => wsF (dgF (gI h0 74 a2.toInt) (gI h0 76 a2.toInt) (gI h0 75 a2.toInt) (d - a3.toInt)) d ↔ (gI h0 103 a1.toInt) = 1)) (fun q d _ => asP_7 q) (Or.inr (Or.inr (Or.inl ⟨by omega, by omega, tu153, by omega⟩))), by omega⟩⟩ hO147 (hu40.tr hu147))
            · have t187 := t150 c151
              clear t149 t150
              have tu188 := t187
              rw [rt_c (CEm_of hO0 hX0) (KWm.un hO0 hu40 (by decide)) (by omega) (by omega), VM_f hO0 hu40, gI_keep (a := 102) (kd := 0) (n := 150) hO0 hu40 _ (by decide) rfl (by decide) rfl (by decide) (by decide), nM_c hO0 hu40, gI_keep (a := 74) (kd := 0) (n := 12) hO0 hu40 a2.toInt (by decide) rfl (by decide) rfl (by decide) (by decide), gI_keep (a := 76) (kd := 0) (n := 12) hO0 hu40 a2.toInt (by decide) rfl (by decide) rfl (by decide) (by decide), gI_keep (a := 75) (kd := 0) (n := 12) hO0 hu40 a2.toInt (by decide) rfl (by decide) rfl (by decide) (by decide), gI_keep (a := 77) (kd := 0) (n := 12) hO0 hu40 a2.toInt (by decide) rfl (by decide) rfl (by decide) (by decide), gI_keep (a := 97) (kd := 0) (n := 150) hO0 hu40 a1.toInt (by decide) rfl (by decide) rfl (by decide) (by decide), gI_keep (a := 103) (kd := 0) (n := 150) hO0 hu40 a1.toInt (by decide) rfl (by decide) rfl (by decide) (by decide)] at tu188
              refine ur_push rfl ?_
              refine ur_go rfl ?_
              obtain ⟨fs189, hc190⟩ := hO147.mod
              obtain ⟨f191, p192, t193⟩ := mf_4 hO147 hc190
              have t194 := fI_of hc190 p192
              obtain ⟨f195, p196, t197⟩ := mf_38 hO147 hc190
              have t198 := fI_of hc190 p196
              obtain ⟨f199, p200⟩ := mf_15 hO147 hc190
              have t201 := fI_of hc190 p200
              obtain ⟨f202, p203⟩ := mf_16 hO147 hc190
              have t204 := fI_of hc190 p203
              obtain ⟨f205, p206⟩ := mf_17 hO147 hc190
              have t207 := fI_of hc190 p206
              obtain ⟨f208, p209⟩ := mf_50 hO147 hc190
              have t210 := fI_of hc190 p209
              obtain ⟨f211, p212⟩ := mf_51 hO147 hc190
              have t213 := fI_of hc190 p212
              obtain ⟨f214, p215⟩ := mf_52 hO147 hc190
              have t216 := fI_of hc190 p215
              obtain ⟨f217, p218⟩ := mf_53 hO147 hc190
              have t219 := fI_of hc190 p218
              have t220 := fI_keep (k := 4) hO0 hO147 (hu40.tr hu147) rfl (by decide)
              have t221 := fI_keep (k := 38) hO0 hO147 (hu40.tr hu147) rfl (by decide)
              exact ur_ret rfl rfl (hQ _ _ ⟨_, rfl, ⟨(px41.e (y := x33.toInt) (by omega) (Or.inl ⟨by decide, rfl⟩)).tw (B := (fun d => wsF (dgF (gI h0 74 a2.toInt) (gI h0 76 a2.toInt) (gI h0 75 a2.toInt) (d - a3.toInt)) d ↔ (gI h0 103 a1.toInt) = 1)) (fun q d _ => asP_7 q) (Or.inr (Or.inr (Or.inr ⟨by omega, by omega, tu188, by omega⟩))), by omega⟩⟩ hO147 (hu40.tr hu147))
      · have t222 := le_no c59
        refine ur_ldA rfl rfl ?_
        refine ur_ldI rfl rfl ?_
        refine ur_ldI rfl rfl ?_
        refine ur_ldI rfl rfl ?_
        refine ur_ldI rfl rfl ?_
        obtain ⟨f223, p224⟩ := mf_50 hO40 hc45
        have t225 := fI_of hc45 p224
        obtain ⟨f226, p227⟩ := mf_51 hO40 hc45
        have t228 := fI_of hc45 p227
        obtain ⟨f229, p230⟩ := mf_52 hO40 hc45
        have t231 := fI_of hc45 p230
        obtain ⟨f232, p233⟩ := mf_53 hO40 hc45
        have t234 := fI_of hc45 p233
        refine ur_inl rfl (rcv_of hc45) (Nat.le_of_ble_eq_true rfl) (Nat.le_of_ble_eq_true rfl) (sd_X12_findLook hO40 (hX0.un hO0 hO40 hu40 (by decide)) _ (by show 0 ≤ a1.toInt ∧ a1.toInt ≤ 149; omega) _ (by show 0 ≤ x34.toInt ∧ x34.toInt ≤ 1; omega) _ (by show -400 ≤ a4.toInt ∧ a4.toInt ≤ 400; omega) _ (by show -20000 ≤ a3.toInt ∧ a3.toInt ≤ 1020000; omega) (by omega) (pre5.un hO0 hu40) (pre6.un hO0 hO40 hu40 (by decide) (by decide)) (fun w235 h237 hr236 hO237 hv237 => ?_))
        have hu237 := hv237
        obtain ⟨b238, rfl, t239, t240⟩ := hr236
        show uRun _ (uCall Mt _) _ 26 (_, [(.inl (bi b238))], _, _, _)
        refine ur_neB rfl (fun c241 => ?_) (fun c241 => ?_)
        · have t242 := t239 c241
          clear t239 t240
          have lk243 := t242
          obtain ⟨fs244, hc245⟩ := hO237.mod
          obtain ⟨f246, p247⟩ := mf_52 hO237 hc245
          have t248 := fI_of hc245 p247
          obtain ⟨f249, p250⟩ := mf_53 hO237 hc245
          have t251 := fI_of hc245 p250
          rw [rt_c (CEm_of hO0 hX0) (KWm.un hO0 hu40 (by decide)) (by omega) (by omega), VM_c hO0 hu40, gI_keep (a := 102) (kd := 0) (n := 150) hO0 hu40 _ (by decide) rfl (by decide) rfl (by decide) (by decide)] at lk243
          refine ur_ldA rfl rfl ?_
          refine ur_get rfl hc245 p250 ?_
          refine ur_svIk [some (.inr (.inr (some 69))), some (.inl a1), some (.inl a2), some (.inl a3), some (.inl a4), some (.inl a5), some (.inl x33), some (.inl x34), some (.inl f249), u36] rfl rfl ?_
          have t252 : 0 ≤ f249.toInt ∧ f249.toInt ≤ 999999 := by omega
          refine ur_ldA rfl rfl ?_
          refine ur_get rfl hc245 p247 ?_
          refine ur_ldI rfl rfl ?_
          have z253 := any_r f246
          have z254 := any_r a5
          refine ur_if2 rfl (fun c255 => ?_) (fun c255 => ?_)
          · have t256 := le_to c255
            refine ur_ldA rfl rfl ?_
            refine ur_get rfl hc245 p247 ?_
            refine ur_svIk [some (.inr (.inr (some 69))), some (.inl a1), some (.inl a2), some (.inl a3), some (.inl a4), some (.inl a5), some (.inl x33), some (.inl x34), some (.inl f249), some (.inl f246)] rfl rfl ?_
            obtain ⟨f262, p263, t264⟩ := mf_4 hO237 hc245
            have t265 := fI_of hc245 p263
            obtain ⟨f266, p267, t268⟩ := mf_38 hO237 hc245
            have t269 := fI_of hc245 p267
            obtain ⟨f270, p271⟩ := mf_15 hO237 hc245
            have t272 := fI_of hc245 p271
            obtain ⟨f273, p274⟩ := mf_16 hO237 hc245
            have t275 := fI_of hc245 p274
            obtain ⟨f276, p277⟩ := mf_17 hO237 hc245
            have t278 := fI_of hc245 p277
            obtain ⟨f279, p280⟩ := mf_50 hO237 hc245
            have t281 := fI_of hc245 p280
            obtain ⟨f282, p283⟩ := mf_51 hO237 hc245
            have t284 := fI_of hc245 p283
            have L259 : ∀ (m260 : Nat) (x257 : Int32) (x258 : Int32) (h285 : aH) , OK h285 → un [] h237 h285 → ((0 ≤ x258.toInt ∧ x258.toInt ≤ 1000000) ∧ (-1 ≤ x257.toInt ∧ x257.toInt ≤ 999999) ∧ fI h237 52 ≤ x258.toInt ∧ a5.toInt ≤ x258.toInt) → (FIq (nM h0 (rt h0 a1.toInt)) (fun i => VM h0 M (rt h0 a1.toInt) i + a4.toInt) (gI h0 102 (rt h0 a1.toInt)) (fun d => canP ls (gI h0 74 a2.toInt) (gI h0 76 a2.toInt) (gI h0 75 a2.toInt) (gI h0 77 a2.toInt) (gI h0 97 a1.toInt) a3.toInt d) (fun d => asP l1 (gI h0 96 a1.toInt) (gI h0 103 a1.toInt) (gI h0 97 a1.toInt) (gI h0 74 a2.toInt) (gI h0 76 a2.toInt) (gI h0 75 a2.toInt) (gI h0 77 a2.toInt) (d - a3.toInt) d) (fun d => a5.toInt ≤ d) 0 (x34.toInt) (x258.toInt) (x257.toInt) 1) → ((1000001 - x258.toInt).toNat) < m260 → uRun oX12_fitDay (uCall Mt (d + 6)) Q 58 ([some (.inr (.inr (some 69))), some (.inl a1), some (.inl a2), some (.inl a3), some (.inl a4), some (.inl a5), some (.inl x257), some (.inl x34), some (.inl f249), some (.inl x258)], [], h285, kc, ks) := by
              intro m260
              induction m260 with
              | zero => intro x257 x258 h285 hO285 hu285 iv287 px286 mm288; omega
              | succ m260 ih261 =>
                intro x257 x258 h285 hO285 hu285 iv287 px286 mm288
                refine ur_ldI rfl rfl ?_
                refine ur_ldI rfl rfl ?_
                have z289 := any_r x258
                have z290 := any_r f249
                refine ur_if2 rfl (fun c291 => ?_) (fun c291 => ?_)
                · have t292 := lt_to c291
                  refine ur_incV (fun z => [some (.inr (.inr (some 69))), some (.inl a1), some (.inl a2), some (.inl a3), some (.inl a4), some (.inl a5), some (.inl x257), some (.inl z), some (.inl f249), some (.inl x258)]) rfl rfl (fun _ => rfl) (fun x293 e294 => ?_)
                  have t295 := ti_add e294 (by omega) (by omega)
                  refine ur_go rfl ?_
                  obtain ⟨fs296, hc297⟩ := hO285.mod
                  obtain ⟨f298, p299, t300⟩ := mf_4 hO285 hc297
                  have t301 := fI_of hc297 p299
                  obtain ⟨f302, p303, t304⟩ := mf_38 hO285 hc297
                  have t305 := fI_of hc297 p303
                  obtain ⟨f306, p307⟩ := mf_15 hO285 hc297
                  have t308 := fI_of hc297 p307
                  obtain ⟨f309, p310⟩ := mf_16 hO285 hc297
                  have t311 := fI_of hc297 p310
                  obtain ⟨f312, p313⟩ := mf_17 hO285 hc297
                  have t314 := fI_of hc297 p313
                  obtain ⟨f315, p316⟩ := mf_50 hO285 hc297
                  have t317 := fI_of hc297 p316
                  obtain ⟨f318, p319⟩ := mf_51 hO285 hc297
                  have t320 := fI_of hc297 p319
                  obtain ⟨f321, p322⟩ := mf_52 hO285 hc297
                  have t323 := fI_of hc297 p322
                  obtain ⟨f324, p325⟩ := mf_53 hO285 hc297
                  have t326 := fI_of hc297 p325
                  have z327 := any_r x257
                  have z328 := any_r x293
                  exact ih39 x257 x293 _ _ _ hO285 (hu40.tr (hu237.tr hu285)) (by omega) (px286.o (fun d q p => Or.inl (fun k => by have k1 := k.1.1; have k2 := k.2.2; (try dsimp only at k2); unfold SPi at q; (try dsimp only at q); omega)) (fun q => absurd q (by decide)) (by omega) rfl) (by omega)
                · have t329 := lt_no c291
                  refine ur_ldI rfl rfl ?_
                  refine ur_if1 rfl (fun c330 => ?_) (fun c330 => ?_)
                  · have t331 := lt_to c330
                    refine ur_ldA rfl rfl ?_
                    refine ur_ldI rfl rfl ?_
                    refine ur_ldI rfl rfl ?_
                    refine ur_ldI rfl rfl ?_
                    refine ur_ldI rfl rfl ?_
                    obtain ⟨fs332, hc333⟩ := hO285.mod
                    obtain ⟨f334, p335, t336⟩ := mf_4 hO285 hc333
                    have t337 := fI_of hc333 p335
                    obtain ⟨f338, p339, t340⟩ := mf_38 hO285 hc333
                    have t341 := fI_of hc333 p339
                    obtain ⟨f342, p343⟩ := mf_15 hO285 hc333
                    have t344 := fI_of hc333 p343
                    obtain ⟨f345, p346⟩ := mf_16 hO285 hc333
                    have t347 := fI_of hc333 p346
                    obtain ⟨f348, p349⟩ := mf_17 hO285 hc333
                    have t350 := fI_of hc333 p349
                    have t351 := fI_keep (k := 4) hO0 hO285 (hu40.tr (hu237.tr hu285)) rfl (by decide)
                    have t352 := fI_keep (k := 38) hO0 hO285 (hu40.tr (hu237.tr hu285)) rfl (by decide)
                    refine ur_inl rfl (rcv_of hc333) (Nat.le_of_ble_eq_true rfl) (Nat.le_of_ble_eq_true rfl) (sd_X12_fitsOn hO285 (hX0.un hO0 hO285 (hu40.tr (hu237.tr hu285)) (by decide)) _ (by show 0 ≤ a1.toInt ∧ a1.toInt ≤ 149; omega) _ (by show 0 ≤ a2.toInt ∧ a2.toInt ≤ 11; omega) _ (by show -20000 ≤ a3.toInt ∧ a3.toInt ≤ 1020000; omega) _ (by show 0 ≤ x258.toInt ∧ x258.toInt ≤ 999999; omega) (((pre0.un hO0 hO40 hu40 (by decide)).un hO40 hO237 hv237 (by decide)).un hO237 hO285 hu285 (by decide)) (by omega) (by omega) (pre3.keep (KN.un hO0 (hu40.tr (hu237.tr hu285)) (by decide) (by decide) (by decide) (by decide) (by decide)) (by decide)) pre4 (pre7.keep (KN.un hO0 (hu40.tr (hu237.tr hu285)) (by decide) (by decide) (by decide) (by decide) (by decide)) (by decide)) pre8 (pre9.un hO0 hO285 (hu40.tr (hu237.tr hu285)) (by decide) (by decide)) (fun w353 h355 hr354 hO355 hv355 => ?_))
                    have hu355 := hv355
                    obtain ⟨b356, rfl, t357, t358⟩ := hr354
                    show uRun _ (uCall Mt _) _ 86 (_, [(.inl (bi b356))], _, _, _)
                    refine ur_eqB rfl (fun c359 => ?_) (fun c359 => ?_)
                    · have t360 := t358 c359
                      clear t357 t358
                      have fx361 := t360
                      rw [gI_keep (a := 74) (kd := 0) (n := 12) hO0 (hu40.tr (hu237.tr hu285)) a2.toInt (by decide) rfl (by decide) rfl (by decide) (by decide), gI_keep (a := 76) (kd := 0) (n := 12) hO0 (hu40.tr (hu237.tr hu285)) a2.toInt (by decide) rfl (by decide) rfl (by decide) (by decide), gI_keep (a := 75) (kd := 0) (n := 12) hO0 (hu40.tr (hu237.tr hu285)) a2.toInt (by decide) rfl (by decide) rfl (by decide) (by decide), gI_keep (a := 77) (kd := 0) (n := 12) hO0 (hu40.tr (hu237.tr hu285)) a2.toInt (by decide) rfl (by decide) rfl (by decide) (by decide), gI_keep (a := 96) (kd := 0) (n := 150) hO0 (hu40.tr (hu237.tr hu285)) a1.toInt (by decide) rfl (by decide) rfl (by decide) (by decide), gI_keep (a := 97) (kd := 0) (n := 150) hO0 (hu40.tr (hu237.tr hu285)) a1.toInt (by decide) rfl (by decide) rfl (by decide) (by decide), gI_keep (a := 103) (kd := 0) (n := 150) hO0 (hu40.tr (hu237.tr hu285)) a1.toInt (by decide) rfl (by decide) rfl (by decide) (by decide)] at fx361
                      refine ur_incV (fun z => [some (.inr (.inr (some 69))), some (.inl a1), some (.inl a2), some (.inl a3), some (.inl a4), some (.inl a5), some (.inl x257), some (.inl x34), some (.inl f249), some (.inl z)]) rfl rfl (fun _ => rfl) (fun x362 e363 => ?_)
                      have t364 := ti_add e363 (by omega) (by omega)
                      refine ur_go rfl ?_
                      obtain ⟨fs365, hc366⟩ := hO355.mod
                      obtain ⟨f367, p368, t369⟩ := mf_4 hO355 hc366
                      have t370 := fI_of hc366 p368
                      obtain ⟨f371, p372, t373⟩ := mf_38 hO355 hc366
                      have t374 := fI_of hc366 p372
                      obtain ⟨f375, p376⟩ := mf_15 hO355 hc366
                      have t377 := fI_of hc366 p376
                      obtain ⟨f378, p379⟩ := mf_16 hO355 hc366
                      have t380 := fI_of hc366 p379
                      obtain ⟨f381, p382⟩ := mf_17 hO355 hc366
                      have t383 := fI_of hc366 p382
                      obtain ⟨f384, p385⟩ := mf_50 hO355 hc366
                      have t386 := fI_of hc366 p385
                      obtain ⟨f387, p388⟩ := mf_51 hO355 hc366
                      have t389 := fI_of hc366 p388
                      obtain ⟨f390, p391⟩ := mf_52 hO355 hc366
                      have t392 := fI_of hc366 p391
                      obtain ⟨f393, p394⟩ := mf_53 hO355 hc366
                      have t395 := fI_of hc366 p394
                      have z396 := any_r x257
                      have z397 := any_r x362
                      exact ih261 x257 x362 _ hO355 (hu285.tr hu355) (by omega) (px286.f (by decide) fx361 (by omega)) (by omega)
                    · have t398 := t357 c359
                      clear t357 t358
                      have fx399 := t398
                      rw [gI_keep (a := 74) (kd := 0) (n := 12) hO0 (hu40.tr (hu237.tr hu285)) a2.toInt (by decide) rfl (by decide) rfl (by decide) (by decide), gI_keep (a := 76) (kd := 0) (n := 12) hO0 (hu40.tr (hu237.tr hu285)) a2.toInt (by decide) rfl (by decide) rfl (by decide) (by decide), gI_keep (a := 75) (kd := 0) (n := 12) hO0 (hu40.tr (hu237.tr hu285)) a2.toInt (by decide) rfl (by decide) rfl (by decide) (by decide), gI_keep (a := 77) (kd := 0) (n := 12) hO0 (hu40.tr (hu237.tr hu285)) a2.toInt (by decide) rfl (by decide) rfl (by decide) (by decide), gI_keep (a := 96) (kd := 0) (n := 150) hO0 (hu40.tr (hu237.tr hu285)) a1.toInt (by decide) rfl (by decide) rfl (by decide) (by decide), gI_keep (a := 97) (kd := 0) (n := 150) hO0 (hu40.tr (hu237.tr hu285)) a1.toInt (by decide) rfl (by decide) rfl (by decide) (by decide), gI_keep (a := 103) (kd := 0) (n := 150) hO0 (hu40.tr (hu237.tr hu285)) a1.toInt (by decide) rfl (by decide) rfl (by decide) (by decide)] at fx399
                      refine ur_ldI rfl rfl ?_
                      refine ur_svIk [some (.inr (.inr (some 69))), some (.inl a1), some (.inl a2), some (.inl a3), some (.inl a4), some (.inl a5), some (.inl x258), some (.inl x34), some (.inl f249), some (.inl x258)] rfl rfl ?_
                      refine ur_incV (fun z => [some (.inr (.inr (some 69))), some (.inl a1), some (.inl a2), some (.inl a3), some (.inl a4), some (.inl a5), some (.inl x258), some (.inl x34), some (.inl f249), some (.inl z)]) rfl rfl (fun _ => rfl) (fun x400 e401 => ?_)
                      have t402 := ti_add e401 (by omega) (by omega)
                      refine ur_go rfl ?_
                      obtain ⟨fs403, hc404⟩ := hO355.mod
                      obtain ⟨f405, p406, t407⟩ := mf_4 hO355 hc404
                      have t408 := fI_of hc404 p406
                      obtain ⟨f409, p410, t411⟩ := mf_38 hO355 hc404
                      have t412 := fI_of hc404 p410
                      obtain ⟨f413, p414⟩ := mf_15 hO355 hc404
                      have t415 := fI_of hc404 p414
                      obtain ⟨f416, p417⟩ := mf_16 hO355 hc404
                      have t418 := fI_of hc404 p417
                      obtain ⟨f419, p420⟩ := mf_17 hO355 hc404
                      have t421 := fI_of hc404 p420
                      obtain ⟨f422, p423⟩ := mf_50 hO355 hc404
                      have t424 := fI_of hc404 p423
                      obtain ⟨f425, p426⟩ := mf_51 hO355 hc404
                      have t427 := fI_of hc404 p426
                      obtain ⟨f428, p429⟩ := mf_52 hO355 hc404
                      have t430 := fI_of hc404 p429
                      obtain ⟨f431, p432⟩ := mf_53 hO355 hc404
                      have t433 := fI_of hc404 p432
                      have z434 := any_r x400
                      exact ih261 x258 x400 _ hO355 (hu285.tr hu355) (by omega) (px286.y (by omega) (by unfold SPi; (try dsimp only); omega) fx399.1 fx399.2 (show a5.toInt ≤ x258.toInt by omega) (by omega) (by omega) rfl) (by omega)
                  · have t435 := lt_no c330
                    refine ur_ldI rfl rfl ?_
                    refine ur_ldI rfl rfl ?_
                    have z436 := any_r x257
                    refine ur_if2 rfl (fun c437 => ?_) (fun c437 => ?_)
                    · have t438 := le_to c437
                      refine ur_incV (fun z => [some (.inr (.inr (some 69))), some (.inl a1), some (.inl a2), some (.inl a3), some (.inl a4), some (.inl a5), some (.inl x257), some (.inl z), some (.inl f249), some (.inl x258)]) rfl rfl (fun _ => rfl) (fun x439 e440 => ?_)
                      have t441 := ti_add e440 (by omega) (by omega)
                      refine ur_go rfl ?_
                      obtain ⟨fs442, hc443⟩ := hO285.mod
                      obtain ⟨f444, p445, t446⟩ := mf_4 hO285 hc443
                      have t447 := fI_of hc443 p445
                      obtain ⟨f448, p449, t450⟩ := mf_38 hO285 hc443
                      have t451 := fI_of hc443 p449
                      obtain ⟨f452, p453⟩ := mf_15 hO285 hc443
                      have t454 := fI_of hc443 p453
                      obtain ⟨f455, p456⟩ := mf_16 hO285 hc443
                      have t457 := fI_of hc443 p456
                      obtain ⟨f458, p459⟩ := mf_17 hO285 hc443
                      have t460 := fI_of hc443 p459
                      obtain ⟨f461, p462⟩ := mf_50 hO285 hc443
                      have t463 := fI_of hc443 p462
                      obtain ⟨f464, p465⟩ := mf_51 hO285 hc443
                      have t466 := fI_of hc443 p465
                      obtain ⟨f467, p468⟩ := mf_52 hO285 hc443
                      have t469 := fI_of hc443 p468
                      obtain ⟨f470, p471⟩ := mf_53 hO285 hc443
                      have t472 := fI_of hc443 p471
                      have z473 := any_r x439
                      exact ih39 x257 x439 _ _ _ hO285 (hu40.tr (hu237.tr hu285)) (by omega) (px286.o (fun d q _ => Or.inr (by omega)) (fun q => absurd q (by decide)) (by omega) rfl) (by omega)
                    · have t474 := le_no c437
                      refine ur_ldA rfl rfl ?_
                      refine ur_ldI rfl rfl ?_
                      refine ur_ldI rfl rfl ?_
                      refine ur_ldI rfl rfl ?_
                      refine ur_ldI rfl rfl ?_
                      obtain ⟨fs475, hc476⟩ := hO285.mod
                      obtain ⟨f477, p478, t479⟩ := mf_4 hO285 hc476
                      have t480 := fI_of hc476 p478
                      obtain ⟨f481, p482, t483⟩ := mf_38 hO285 hc476
                      have t484 := fI_of hc476 p482
                      obtain ⟨f485, p486⟩ := mf_15 hO285 hc476
                      have t487 := fI_of hc476 p486
                      obtain ⟨f488, p489⟩ := mf_16 hO285 hc476
                      have t490 := fI_of hc476 p489
                      obtain ⟨f491, p492⟩ := mf_17 hO285 hc476
                      have t493 := fI_of hc476 p492
                      have t494 := fI_keep (k := 4) hO0 hO285 (hu40.tr (hu237.tr hu285)) rfl (by decide)
                      have t495 := fI_keep (k := 38) hO0 hO285 (hu40.tr (hu237.tr hu285)) rfl (by decide)
                      refine ur_inl rfl (rcv_of hc476) (Nat.le_of_ble_eq_true rfl) (Nat.le_of_ble_eq_true rfl) (sd_X12_fitsOn hO285 (hX0.un hO0 hO285 (hu40.tr (hu237.tr hu285)) (by decide)) _ (by show 0 ≤ a1.toInt ∧ a1.toInt ≤ 149; omega) _ (by show 0 ≤ a2.toInt ∧ a2.toInt ≤ 11; omega) _ (by show -20000 ≤ a3.toInt ∧ a3.toInt ≤ 1020000; omega) _ (by show 0 ≤ x258.toInt ∧ x258.toInt ≤ 999999; omega) (((pre0.un hO0 hO40 hu40 (by decide)).un hO40 hO237 hv237 (by decide)).un hO237 hO285 hu285 (by decide)) (by omega) (by omega) (pre3.keep (KN.un hO0 (hu40.tr (hu237.tr hu285)) (by decide) (by decide) (by decide) (by decide) (by decide)) (by decide)) pre4 (pre7.keep (KN.un hO0 (hu40.tr (hu237.tr hu285)) (by decide) (by decide) (by decide) (by decide) (by decide)) (by decide)) pre8 (pre9.un hO0 hO285 (hu40.tr (hu237.tr hu285)) (by decide) (by decide)) (fun w496 h498 hr497 hO498 hv498 => ?_))
                      have hu498 := hv498
                      obtain ⟨b499, rfl, t500, t501⟩ := hr497
                      show uRun _ (uCall Mt _) _ 86 (_, [(.inl (bi b499))], _, _, _)
                      refine ur_eqB rfl (fun c502 => ?_) (fun c502 => ?_)
                      · have t503 := t501 c502
                        clear t500 t501
                        have fx504 := t503
                        rw [gI_keep (a := 74) (kd := 0) (n := 12) hO0 (hu40.tr (hu237.tr hu285)) a2.toInt (by decide) rfl (by decide) rfl (by decide) (by decide), gI_keep (a := 76) (kd := 0) (n := 12) hO0 (hu40.tr (hu237.tr hu285)) a2.toInt (by decide) rfl (by decide) rfl (by decide) (by decide), gI_keep (a := 75) (kd := 0) (n := 12) hO0 (hu40.tr (hu237.tr hu285)) a2.toInt (by decide) rfl (by decide) rfl (by decide) (by decide), gI_keep (a := 77) (kd := 0) (n := 12) hO0 (hu40.tr (hu237.tr hu285)) a2.toInt (by decide) rfl (by decide) rfl (by decide) (by decide), gI_keep (a := 96) (kd := 0) (n := 150) hO0 (hu40.tr (hu237.tr hu285)) a1.toInt (by decide) rfl (by decide) rfl (by decide) (by decide), gI_keep (a := 97) (kd := 0) (n := 150) hO0 (hu40.tr (hu237.tr hu285)) a1.toInt (by decide) rfl (by decide) rfl (by decide) (by decide), gI_keep (a := 103) (kd := 0) (n := 150) hO0 (hu40.tr (hu237.tr hu285)) a1.toInt (by decide) rfl (by decide) rfl (by decide) (by decide)] at fx504
                        refine ur_incV (fun z => [some (.inr (.inr (some 69))), some (.inl a1), some (.inl a2), some (.inl a3), some (.inl a4), some (.inl a5), some (.inl x257), some (.inl x34), some (.inl f249), some (.inl z)]) rfl rfl (fun _ => rfl) (fun x505 e506 => ?_)
                        have t507 := ti_add e506 (by omega) (by omega)
                        refine ur_go rfl ?_
                        obtain ⟨fs508, hc509⟩ := hO498.mod
                        obtain ⟨f510, p511, t512⟩ := mf_4 hO498 hc509
                        have t513 := fI_of hc509 p511
                        obtain ⟨f514, p515, t516⟩ := mf_38 hO498 hc509
                        have t517 := fI_of hc509 p515
                        obtain ⟨f518, p519⟩ := mf_15 hO498 hc509
                        have t520 := fI_of hc509 p519
                        obtain ⟨f521, p522⟩ := mf_16 hO498 hc509
                        have t523 := fI_of hc509 p522
                        obtain ⟨f524, p525⟩ := mf_17 hO498 hc509
                        have t526 := fI_of hc509 p525
                        obtain ⟨f527, p528⟩ := mf_50 hO498 hc509
                        have t529 := fI_of hc509 p528
                        obtain ⟨f530, p531⟩ := mf_51 hO498 hc509
                        have t532 := fI_of hc509 p531
                        obtain ⟨f533, p534⟩ := mf_52 hO498 hc509
                        have t535 := fI_of hc509 p534
                        obtain ⟨f536, p537⟩ := mf_53 hO498 hc509
                        have t538 := fI_of hc509 p537
                        have z539 := any_r x505
                        exact ih261 x257 x505 _ hO498 (hu285.tr hu498) (by omega) (px286.f (by decide) fx504 (by omega)) (by omega)
                      · have t540 := t500 c502
                        clear t500 t501
                        have fx541 := t540
                        rw [gI_keep (a := 74) (kd := 0) (n := 12) hO0 (hu40.tr (hu237.tr hu285)) a2.toInt (by decide) rfl (by decide) rfl (by decide) (by decide), gI_keep (a := 76) (kd := 0) (n := 12) hO0 (hu40.tr (hu237.tr hu285)) a2.toInt (by decide) rfl (by decide) rfl (by decide) (by decide), gI_keep (a := 75) (kd := 0) (n := 12) hO0 (hu40.tr (hu237.tr hu285)) a2.toInt (by decide) rfl (by decide) rfl (by decide) (by decide), gI_keep (a := 77) (kd := 0) (n := 12) hO0 (hu40.tr (hu237.tr hu285)) a2.toInt (by decide) rfl (by decide) rfl (by decide) (by decide), gI_keep (a := 96) (kd := 0) (n := 150) hO0 (hu40.tr (hu237.tr hu285)) a1.toInt (by decide) rfl (by decide) rfl (by decide) (by decide), gI_keep (a := 97) (kd := 0) (n := 150) hO0 (hu40.tr (hu237.tr hu285)) a1.toInt (by decide) rfl (by decide) rfl (by decide) (by decide), gI_keep (a := 103) (kd := 0) (n := 150) hO0 (hu40.tr (hu237.tr hu285)) a1.toInt (by decide) rfl (by decide) rfl (by decide) (by decide)] at fx541
                        refine ur_ldI rfl rfl ?_
                        refine ur_svIk [some (.inr (.inr (some 69))), some (.inl a1), some (.inl a2), some (.inl a3), some (.inl a4), some (.inl a5), some (.inl x258), some (.inl x34), some (.inl f249), some (.inl x258)] rfl rfl ?_
                        refine ur_incV (fun z => [some (.inr (.inr (some 69))), some (.inl a1), some (.inl a2), some (.inl a3), some (.inl a4), some (.inl a5), some (.inl x258), some (.inl x34), some (.inl f249), some (.inl z)]) rfl rfl (fun _ => rfl) (fun x542 e543 => ?_)
                        have t544 := ti_add e543 (by omega) (by omega)
                        refine ur_go rfl ?_
                        obtain ⟨fs545, hc546⟩ := hO498.mod
                        obtain ⟨f547, p548, t549⟩ := mf_4 hO498 hc546
                        have t550 := fI_of hc546 p548
                        obtain ⟨f551, p552, t553⟩ := mf_38 hO498 hc546
                        have t554 := fI_of hc546 p552
                        obtain ⟨f555, p556⟩ := mf_15 hO498 hc546
                        have t557 := fI_of hc546 p556
                        obtain ⟨f558, p559⟩ := mf_16 hO498 hc546
                        have t560 := fI_of hc546 p559
                        obtain ⟨f561, p562⟩ := mf_17 hO498 hc546
                        have t563 := fI_of hc546 p562
                        obtain ⟨f564, p565⟩ := mf_50 hO498 hc546
                        have t566 := fI_of hc546 p565
                        obtain ⟨f567, p568⟩ := mf_51 hO498 hc546
                        have t569 := fI_of hc546 p568
                        obtain ⟨f570, p571⟩ := mf_52 hO498 hc546
                        have t572 := fI_of hc546 p571
                        obtain ⟨f573, p574⟩ := mf_53 hO498 hc546
                        have t575 := fI_of hc546 p574
                        have z576 := any_r x542
                        exact ih261 x258 x542 _ hO498 (hu285.tr hu498) (by omega) (px286.y (by omega) (by unfold SPi; (try dsimp only); omega) fx541.1 fx541.2 (show a5.toInt ≤ x258.toInt by omega) (by omega) (by omega) rfl) (by omega)
            have z577 := any_r x33
            exact L259 _ x33 f246 _ hO237 un.rf (by omega) (px41.i (fun d q p k => by have k1 := k.1.1; have k2 := k.2.2; (try dsimp only at k2); unfold SPi at q; (try dsimp only at q); omega) (fun q => absurd q (by decide))) (Nat.lt_succ_self _)
          · have t578 := le_no c255
            refine ur_ldI rfl rfl ?_
            refine ur_go rfl ?_
            refine ur_svIk [some (.inr (.inr (some 69))), some (.inl a1), some (.inl a2), some (.inl a3), some (.inl a4), some (.inl a5), some (.inl x33), some (.inl x34), some (.inl f249), some (.inl a5)] rfl rfl ?_
            obtain ⟨f584, p585, t586⟩ := mf_4 hO237 hc245
            have t587 := fI_of hc245 p585
            obtain ⟨f588, p589, t590⟩ := mf_38 hO237 hc245
            have t591 := fI_of hc245 p589
            obtain ⟨f592, p593⟩ := mf_15 hO237 hc245
            have t594 := fI_of hc245 p593
            obtain ⟨f595, p596⟩ := mf_16 hO237 hc245
            have t597 := fI_of hc245 p596
            obtain ⟨f598, p599⟩ := mf_17 hO237 hc245
            have t600 := fI_of hc245 p599
            obtain ⟨f601, p602⟩ := mf_50 hO237 hc245
            have t603 := fI_of hc245 p602
            obtain ⟨f604, p605⟩ := mf_51 hO237 hc245
            have t606 := fI_of hc245 p605
            have L581 : ∀ (m582 : Nat) (x579 : Int32) (x580 : Int32) (h607 : aH) , OK h607 → un [] h237 h607 → ((0 ≤ x580.toInt ∧ x580.toInt ≤ 1000000) ∧ (-1 ≤ x579.toInt ∧ x579.toInt ≤ 999999) ∧ fI h237 52 ≤ x580.toInt ∧ a5.toInt ≤ x580.toInt) → (FIq (nM h0 (rt h0 a1.toInt)) (fun i => VM h0 M (rt h0 a1.toInt) i + a4.toInt) (gI h0 102 (rt h0 a1.toInt)) (fun d => canP ls (gI h0 74 a2.toInt) (gI h0 76 a2.toInt) (gI h0 75 a2.toInt) (gI h0 77 a2.toInt) (gI h0 97 a1.toInt) a3.toInt d) (fun d => asP l1 (gI h0 96 a1.toInt) (gI h0 103 a1.toInt) (gI h0 97 a1.toInt) (gI h0 74 a2.toInt) (gI h0 76 a2.toInt) (gI h0 75 a2.toInt) (gI h0 77 a2.toInt) (d - a3.toInt) d) (fun d => a5.toInt ≤ d) 0 (x34.toInt) (x580.toInt) (x579.toInt) 1) → ((1000001 - x580.toInt).toNat) < m582 → uRun oX12_fitDay (uCall Mt (d + 6)) Q 58 ([some (.inr (.inr (some 69))), some (.inl a1), some (.inl a2), some (.inl a3), some (.inl a4), some (.inl a5), some (.inl x579), some (.inl x34), some (.inl f249), some (.inl x580)], [], h607, kc, ks) := by
              intro m582
              induction m582 with
              | zero => intro x579 x580 h607 hO607 hu607 iv609 px608 mm610; omega
              | succ m582 ih583 =>
                intro x579 x580 h607 hO607 hu607 iv609 px608 mm610
                refine ur_ldI rfl rfl ?_
                refine ur_ldI rfl rfl ?_
                have z611 := any_r x580
                have z612 := any_r f249
                refine ur_if2 rfl (fun c613 => ?_) (fun c613 => ?_)
                · have t614 := lt_to c613
                  refine ur_incV (fun z => [some (.inr (.inr (some 69))), some (.inl a1), some (.inl a2), some (.inl a3), some (.inl a4), some (.inl a5), some (.inl x579), some (.inl z), some (.inl f249), some (.inl x580)]) rfl rfl (fun _ => rfl) (fun x615 e616 => ?_)
                  have t617 := ti_add e616 (by omega) (by omega)
                  refine ur_go rfl ?_
                  obtain ⟨fs618, hc619⟩ := hO607.mod
                  obtain ⟨f620, p621, t622⟩ := mf_4 hO607 hc619
                  have t623 := fI_of hc619 p621
                  obtain ⟨f624, p625, t626⟩ := mf_38 hO607 hc619
                  have t627 := fI_of hc619 p625
                  obtain ⟨f628, p629⟩ := mf_15 hO607 hc619
                  have t630 := fI_of hc619 p629
                  obtain ⟨f631, p632⟩ := mf_16 hO607 hc619
                  have t633 := fI_of hc619 p632
                  obtain ⟨f634, p635⟩ := mf_17 hO607 hc619
                  have t636 := fI_of hc619 p635
                  obtain ⟨f637, p638⟩ := mf_50 hO607 hc619
                  have t639 := fI_of hc619 p638
                  obtain ⟨f640, p641⟩ := mf_51 hO607 hc619
                  have t642 := fI_of hc619 p641
                  obtain ⟨f643, p644⟩ := mf_52 hO607 hc619
                  have t645 := fI_of hc619 p644
                  obtain ⟨f646, p647⟩ := mf_53 hO607 hc619
                  have t648 := fI_of hc619 p647
                  have z649 := any_r x579
                  have z650 := any_r x615
                  exact ih39 x579 x615 _ _ _ hO607 (hu40.tr (hu237.tr hu607)) (by omega) (px608.o (fun d q p => Or.inl (fun k => by have k1 := k.1.1; have k2 := k.2.2; (try dsimp only at k2); unfold SPi at q; (try dsimp only at q); omega)) (fun q => absurd q (by decide)) (by omega) rfl) (by omega)
                · have t651 := lt_no c613
                  refine ur_ldI rfl rfl ?_
                  refine ur_if1 rfl (fun c652 => ?_) (fun c652 => ?_)
                  · have t653 := lt_to c652
                    refine ur_ldA rfl rfl ?_
                    refine ur_ldI rfl rfl ?_
                    refine ur_ldI rfl rfl ?_
                    refine ur_ldI rfl rfl ?_
                    refine ur_ldI rfl rfl ?_
                    obtain ⟨fs654, hc655⟩ := hO607.mod
                    obtain ⟨f656, p657, t658⟩ := mf_4 hO607 hc655
                    have t659 := fI_of hc655 p657
                    obtain ⟨f660, p661, t662⟩ := mf_38 hO607 hc655
                    have t663 := fI_of hc655 p661
                    obtain ⟨f664, p665⟩ := mf_15 hO607 hc655
                    have t666 := fI_of hc655 p665
                    obtain ⟨f667, p668⟩ := mf_16 hO607 hc655
                    have t669 := fI_of hc655 p668
                    obtain ⟨f670, p671⟩ := mf_17 hO607 hc655
                    have t672 := fI_of hc655 p671
                    have t673 := fI_keep (k := 4) hO0 hO607 (hu40.tr (hu237.tr hu607)) rfl (by decide)
                    have t674 := fI_keep (k := 38) hO0 hO607 (hu40.tr (hu237.tr hu607)) rfl (by decide)
                    refine ur_inl rfl (rcv_of hc655) (Nat.le_of_ble_eq_true rfl) (Nat.le_of_ble_eq_true rfl) (sd_X12_fitsOn hO607 (hX0.un hO0 hO607 (hu40.tr (hu237.tr hu607)) (by decide)) _ (by show 0 ≤ a1.toInt ∧ a1.toInt ≤ 149; omega) _ (by show 0 ≤ a2.toInt ∧ a2.toInt ≤ 11; omega) _ (by show -20000 ≤ a3.toInt ∧ a3.toInt ≤ 1020000; omega) _ (by show 0 ≤ x580.toInt ∧ x580.toInt ≤ 999999; omega) (((pre0.un hO0 hO40 hu40 (by decide)).un hO40 hO237 hv237 (by decide)).un hO237 hO607 hu607 (by decide)) (by omega) (by omega) (pre3.keep (KN.un hO0 (hu40.tr (hu237.tr hu607)) (by decide) (by decide) (by decide) (by decide) (by decide)) (by decide)) pre4 (pre7.keep (KN.un hO0 (hu40.tr (hu237.tr hu607)) (by decide) (by decide) (by decide) (by decide) (by decide)) (by decide)) pre8 (pre9.un hO0 hO607 (hu40.tr (hu237.tr hu607)) (by decide) (by decide)) (fun w675 h677 hr676 hO677 hv677 => ?_))
                    have hu677 := hv677
                    obtain ⟨b678, rfl, t679, t680⟩ := hr676
                    show uRun _ (uCall Mt _) _ 86 (_, [(.inl (bi b678))], _, _, _)
                    refine ur_eqB rfl (fun c681 => ?_) (fun c681 => ?_)
                    · have t682 := t680 c681
                      clear t679 t680
                      have fx683 := t682
                      rw [gI_keep (a := 74) (kd := 0) (n := 12) hO0 (hu40.tr (hu237.tr hu607)) a2.toInt (by decide) rfl (by decide) rfl (by decide) (by decide), gI_keep (a := 76) (kd := 0) (n := 12) hO0 (hu40.tr (hu237.tr hu607)) a2.toInt (by decide) rfl (by decide) rfl (by decide) (by decide), gI_keep (a := 75) (kd := 0) (n := 12) hO0 (hu40.tr (hu237.tr hu607)) a2.toInt (by decide) rfl (by decide) rfl (by decide) (by decide), gI_keep (a := 77) (kd := 0) (n := 12) hO0 (hu40.tr (hu237.tr hu607)) a2.toInt (by decide) rfl (by decide) rfl (by decide) (by decide), gI_keep (a := 96) (kd := 0) (n := 150) hO0 (hu40.tr (hu237.tr hu607)) a1.toInt (by decide) rfl (by decide) rfl (by decide) (by decide), gI_keep (a := 97) (kd := 0) (n := 150) hO0 (hu40.tr (hu237.tr hu607)) a1.toInt (by decide) rfl (by decide) rfl (by decide) (by decide), gI_keep (a := 103) (kd := 0) (n := 150) hO0 (hu40.tr (hu237.tr hu607)) a1.toInt (by decide) rfl (by decide) rfl (by decide) (by decide)] at fx683
                      refine ur_incV (fun z => [some (.inr (.inr (some 69))), some (.inl a1), some (.inl a2), some (.inl a3), some (.inl a4), some (.inl a5), some (.inl x579), some (.inl x34), some (.inl f249), some (.inl z)]) rfl rfl (fun _ => rfl) (fun x684 e685 => ?_)
                      have t686 := ti_add e685 (by omega) (by omega)
                      refine ur_go rfl ?_
                      obtain ⟨fs687, hc688⟩ := hO677.mod
                      obtain ⟨f689, p690, t691⟩ := mf_4 hO677 hc688
                      have t692 := fI_of hc688 p690
                      obtain ⟨f693, p694, t695⟩ := mf_38 hO677 hc688
                      have t696 := fI_of hc688 p694
                      obtain ⟨f697, p698⟩ := mf_15 hO677 hc688
                      have t699 := fI_of hc688 p698
                      obtain ⟨f700, p701⟩ := mf_16 hO677 hc688
                      have t702 := fI_of hc688 p701
                      obtain ⟨f703, p704⟩ := mf_17 hO677 hc688
                      have t705 := fI_of hc688 p704
                      obtain ⟨f706, p707⟩ := mf_50 hO677 hc688
                      have t708 := fI_of hc688 p707
                      obtain ⟨f709, p710⟩ := mf_51 hO677 hc688
                      have t711 := fI_of hc688 p710
                      obtain ⟨f712, p713⟩ := mf_52 hO677 hc688
                      have t714 := fI_of hc688 p713
                      obtain ⟨f715, p716⟩ := mf_53 hO677 hc688
                      have t717 := fI_of hc688 p716
                      have z718 := any_r x579
                      have z719 := any_r x684
                      exact ih583 x579 x684 _ hO677 (hu607.tr hu677) (by omega) (px608.f (by decide) fx683 (by omega)) (by omega)
                    · have t720 := t679 c681
                      clear t679 t680
                      have fx721 := t720
                      rw [gI_keep (a := 74) (kd := 0) (n := 12) hO0 (hu40.tr (hu237.tr hu607)) a2.toInt (by decide) rfl (by decide) rfl (by decide) (by decide), gI_keep (a := 76) (kd := 0) (n := 12) hO0 (hu40.tr (hu237.tr hu607)) a2.toInt (by decide) rfl (by decide) rfl (by decide) (by decide), gI_keep (a := 75) (kd := 0) (n := 12) hO0 (hu40.tr (hu237.tr hu607)) a2.toInt (by decide) rfl (by decide) rfl (by decide) (by decide), gI_keep (a := 77) (kd := 0) (n := 12) hO0 (hu40.tr (hu237.tr hu607)) a2.toInt (by decide) rfl (by decide) rfl (by decide) (by decide), gI_keep (a := 96) (kd := 0) (n := 150) hO0 (hu40.tr (hu237.tr hu607)) a1.toInt (by decide) rfl (by decide) rfl (by decide) (by decide), gI_keep (a := 97) (kd := 0) (n := 150) hO0 (hu40.tr (hu237.tr hu607)) a1.toInt (by decide) rfl (by decide) rfl (by decide) (by decide), gI_keep (a := 103) (kd := 0) (n := 150) hO0 (hu40.tr (hu237.tr hu607)) a1.toInt (by decide) rfl (by decide) rfl (by decide) (by decide)] at fx721
                      refine ur_ldI rfl rfl ?_
                      refine ur_svIk [some (.inr (.inr (some 69))), some (.inl a1), some (.inl a2), some (.inl a3), some (.inl a4), some (.inl a5), some (.inl x580), some (.inl x34), some (.inl f249), some (.inl x580)] rfl rfl ?_
                      refine ur_incV (fun z => [some (.inr (.inr (some 69))), some (.inl a1), some (.inl a2), some (.inl a3), some (.inl a4), some (.inl a5), some (.inl x580), some (.inl x34), some (.inl f249), some (.inl z)]) rfl rfl (fun _ => rfl) (fun x722 e723 => ?_)
                      have t724 := ti_add e723 (by omega) (by omega)
                      refine ur_go rfl ?_
                      obtain ⟨fs725, hc726⟩ := hO677.mod
                      obtain ⟨f727, p728, t729⟩ := mf_4 hO677 hc726
                      have t730 := fI_of hc726 p728
                      obtain ⟨f731, p732, t733⟩ := mf_38 hO677 hc726
                      have t734 := fI_of hc726 p732
                      obtain ⟨f735, p736⟩ := mf_15 hO677 hc726
                      have t737 := fI_of hc726 p736
                      obtain ⟨f738, p739⟩ := mf_16 hO677 hc726
                      have t740 := fI_of hc726 p739
                      obtain ⟨f741, p742⟩ := mf_17 hO677 hc726
                      have t743 := fI_of hc726 p742
                      obtain ⟨f744, p745⟩ := mf_50 hO677 hc726
                      have t746 := fI_of hc726 p745
                      obtain ⟨f747, p748⟩ := mf_51 hO677 hc726
                      have t749 := fI_of hc726 p748
                      obtain ⟨f750, p751⟩ := mf_52 hO677 hc726
                      have t752 := fI_of hc726 p751
                      obtain ⟨f753, p754⟩ := mf_53 hO677 hc726
                      have t755 := fI_of hc726 p754
                      have z756 := any_r x722
                      exact ih583 x580 x722 _ hO677 (hu607.tr hu677) (by omega) (px608.y (by omega) (by unfold SPi; (try dsimp only); omega) fx721.1 fx721.2 (show a5.toInt ≤ x580.toInt by omega) (by omega) (by omega) rfl) (by omega)
                  · have t757 := lt_no c652
                    refine ur_ldI rfl rfl ?_
                    refine ur_ldI rfl rfl ?_
                    have z758 := any_r x579
                    refine ur_if2 rfl (fun c759 => ?_) (fun c759 => ?_)
                    · have t760 := le_to c759
                      refine ur_incV (fun z => [some (.inr (.inr (some 69))), some (.inl a1), some (.inl a2), some (.inl a3), some (.inl a4), some (.inl a5), some (.inl x579), some (.inl z), some (.inl f249), some (.inl x580)]) rfl rfl (fun _ => rfl) (fun x761 e762 => ?_)
                      have t763 := ti_add e762 (by omega) (by omega)
                      refine ur_go rfl ?_
                      obtain ⟨fs764, hc765⟩ := hO607.mod
                      obtain ⟨f766, p767, t768⟩ := mf_4 hO607 hc765
                      have t769 := fI_of hc765 p767
                      obtain ⟨f770, p771, t772⟩ := mf_38 hO607 hc765
                      have t773 := fI_of hc765 p771
                      obtain ⟨f774, p775⟩ := mf_15 hO607 hc765
                      have t776 := fI_of hc765 p775
                      obtain ⟨f777, p778⟩ := mf_16 hO607 hc765
                      have t779 := fI_of hc765 p778
                      obtain ⟨f780, p781⟩ := mf_17 hO607 hc765
                      have t782 := fI_of hc765 p781
                      obtain ⟨f783, p784⟩ := mf_50 hO607 hc765
                      have t785 := fI_of hc765 p784
                      obtain ⟨f786, p787⟩ := mf_51 hO607 hc765
                      have t788 := fI_of hc765 p787
                      obtain ⟨f789, p790⟩ := mf_52 hO607 hc765
                      have t791 := fI_of hc765 p790
                      obtain ⟨f792, p793⟩ := mf_53 hO607 hc765
                      have t794 := fI_of hc765 p793
                      have z795 := any_r x761
                      exact ih39 x579 x761 _ _ _ hO607 (hu40.tr (hu237.tr hu607)) (by omega) (px608.o (fun d q _ => Or.inr (by omega)) (fun q => absurd q (by decide)) (by omega) rfl) (by omega)
                    · have t796 := le_no c759
                      refine ur_ldA rfl rfl ?_
                      refine ur_ldI rfl rfl ?_
                      refine ur_ldI rfl rfl ?_
                      refine ur_ldI rfl rfl ?_
                      refine ur_ldI rfl rfl ?_
                      obtain ⟨fs797, hc798⟩ := hO607.mod
                      obtain ⟨f799, p800, t801⟩ := mf_4 hO607 hc798
                      have t802 := fI_of hc798 p800
                      obtain ⟨f803, p804, t805⟩ := mf_38 hO607 hc798
                      have t806 := fI_of hc798 p804
                      obtain ⟨f807, p808⟩ := mf_15 hO607 hc798
                      have t809 := fI_of hc798 p808
                      obtain ⟨f810, p811⟩ := mf_16 hO607 hc798
                      have t812 := fI_of hc798 p811
                      obtain ⟨f813, p814⟩ := mf_17 hO607 hc798
                      have t815 := fI_of hc798 p814
                      have t816 := fI_keep (k := 4) hO0 hO607 (hu40.tr (hu237.tr hu607)) rfl (by decide)
                      have t817 := fI_keep (k := 38) hO0 hO607 (hu40.tr (hu237.tr hu607)) rfl (by decide)
                      refine ur_inl rfl (rcv_of hc798) (Nat.le_of_ble_eq_true rfl) (Nat.le_of_ble_eq_true rfl) (sd_X12_fitsOn hO607 (hX0.un hO0 hO607 (hu40.tr (hu237.tr hu607)) (by decide)) _ (by show 0 ≤ a1.toInt ∧ a1.toInt ≤ 149; omega) _ (by show 0 ≤ a2.toInt ∧ a2.toInt ≤ 11; omega) _ (by show -20000 ≤ a3.toInt ∧ a3.toInt ≤ 1020000; omega) _ (by show 0 ≤ x580.toInt ∧ x580.toInt ≤ 999999; omega) (((pre0.un hO0 hO40 hu40 (by decide)).un hO40 hO237 hv237 (by decide)).un hO237 hO607 hu607 (by decide)) (by omega) (by omega) (pre3.keep (KN.un hO0 (hu40.tr (hu237.tr hu607)) (by decide) (by decide) (by decide) (by decide) (by decide)) (by decide)) pre4 (pre7.keep (KN.un hO0 (hu40.tr (hu237.tr hu607)) (by decide) (by decide) (by decide) (by decide) (by decide)) (by decide)) pre8 (pre9.un hO0 hO607 (hu40.tr (hu237.tr hu607)) (by decide) (by decide)) (fun w818 h820 hr819 hO820 hv820 => ?_))
                      have hu820 := hv820
                      obtain ⟨b821, rfl, t822, t823⟩ := hr819
                      show uRun _ (uCall Mt _) _ 86 (_, [(.inl (bi b821))], _, _, _)
                      refine ur_eqB rfl (fun c824 => ?_) (fun c824 => ?_)
                      · have t825 := t823 c824
                        clear t822 t823
                        have fx826 := t825
                        rw [gI_keep (a := 74) (kd := 0) (n := 12) hO0 (hu40.tr (hu237.tr hu607)) a2.toInt (by decide) rfl (by decide) rfl (by decide) (by decide), gI_keep (a := 76) (kd := 0) (n := 12) hO0 (hu40.tr (hu237.tr hu607)) a2.toInt (by decide) rfl (by decide) rfl (by decide) (by decide), gI_keep (a := 75) (kd := 0) (n := 12) hO0 (hu40.tr (hu237.tr hu607)) a2.toInt (by decide) rfl (by decide) rfl (by decide) (by decide), gI_keep (a := 77) (kd := 0) (n := 12) hO0 (hu40.tr (hu237.tr hu607)) a2.toInt (by decide) rfl (by decide) rfl (by decide) (by decide), gI_keep (a := 96) (kd := 0) (n := 150) hO0 (hu40.tr (hu237.tr hu607)) a1.toInt (by decide) rfl (by decide) rfl (by decide) (by decide), gI_keep (a := 97) (kd := 0) (n := 150) hO0 (hu40.tr (hu237.tr hu607)) a1.toInt (by decide) rfl (by decide) rfl (by decide) (by decide), gI_keep (a := 103) (kd := 0) (n := 150) hO0 (hu40.tr (hu237.tr hu607)) a1.toInt (by decide) rfl (by decide) rfl (by decide) (by decide)] at fx826
                        refine ur_incV (fun z => [some (.inr (.inr (some 69))), some (.inl a1), some (.inl a2), some (.inl a3), some (.inl a4), some (.inl a5), some (.inl x579), some (.inl x34), some (.inl f249), some (.inl z)]) rfl rfl (fun _ => rfl) (fun x827 e828 => ?_)
                        have t829 := ti_add e828 (by omega) (by omega)
                        refine ur_go rfl ?_
                        obtain ⟨fs830, hc831⟩ := hO820.mod
                        obtain ⟨f832, p833, t834⟩ := mf_4 hO820 hc831
                        have t835 := fI_of hc831 p833
                        obtain ⟨f836, p837, t838⟩ := mf_38 hO820 hc831
                        have t839 := fI_of hc831 p837
                        obtain ⟨f840, p841⟩ := mf_15 hO820 hc831
                        have t842 := fI_of hc831 p841
                        obtain ⟨f843, p844⟩ := mf_16 hO820 hc831
                        have t845 := fI_of hc831 p844
                        obtain ⟨f846, p847⟩ := mf_17 hO820 hc831
                        have t848 := fI_of hc831 p847
                        obtain ⟨f849, p850⟩ := mf_50 hO820 hc831
                        have t851 := fI_of hc831 p850
                        obtain ⟨f852, p853⟩ := mf_51 hO820 hc831
                        have t854 := fI_of hc831 p853
                        obtain ⟨f855, p856⟩ := mf_52 hO820 hc831
                        have t857 := fI_of hc831 p856
                        obtain ⟨f858, p859⟩ := mf_53 hO820 hc831
                        have t860 := fI_of hc831 p859
                        have z861 := any_r x827
                        exact ih583 x579 x827 _ hO820 (hu607.tr hu820) (by omega) (px608.f (by decide) fx826 (by omega)) (by omega)
                      · have t862 := t822 c824
                        clear t822 t823
                        have fx863 := t862
                        rw [gI_keep (a := 74) (kd := 0) (n := 12) hO0 (hu40.tr (hu237.tr hu607)) a2.toInt (by decide) rfl (by decide) rfl (by decide) (by decide), gI_keep (a := 76) (kd := 0) (n := 12) hO0 (hu40.tr (hu237.tr hu607)) a2.toInt (by decide) rfl (by decide) rfl (by decide) (by decide), gI_keep (a := 75) (kd := 0) (n := 12) hO0 (hu40.tr (hu237.tr hu607)) a2.toInt (by decide) rfl (by decide) rfl (by decide) (by decide), gI_keep (a := 77) (kd := 0) (n := 12) hO0 (hu40.tr (hu237.tr hu607)) a2.toInt (by decide) rfl (by decide) rfl (by decide) (by decide), gI_keep (a := 96) (kd := 0) (n := 150) hO0 (hu40.tr (hu237.tr hu607)) a1.toInt (by decide) rfl (by decide) rfl (by decide) (by decide), gI_keep (a := 97) (kd := 0) (n := 150) hO0 (hu40.tr (hu237.tr hu607)) a1.toInt (by decide) rfl (by decide) rfl (by decide) (by decide), gI_keep (a := 103) (kd := 0) (n := 150) hO0 (hu40.tr (hu237.tr hu607)) a1.toInt (by decide) rfl (by decide) rfl (by decide) (by decide)] at fx863
                        refine ur_ldI rfl rfl ?_
                        refine ur_svIk [some (.inr (.inr (some 69))), some (.inl a1), some (.inl a2), some (.inl a3), some (.inl a4), some (.inl a5), some (.inl x580), some (.inl x34), some (.inl f249), some (.inl x580)] rfl rfl ?_
                        refine ur_incV (fun z => [some (.inr (.inr (some 69))), some (.inl a1), some (.inl a2), some (.inl a3), some (.inl a4), some (.inl a5), some (.inl x580), some (.inl x34), some (.inl f249), some (.inl z)]) rfl rfl (fun _ => rfl) (fun x864 e865 => ?_)
                        have t866 := ti_add e865 (by omega) (by omega)
                        refine ur_go rfl ?_
                        obtain ⟨fs867, hc868⟩ := hO820.mod
                        obtain ⟨f869, p870, t871⟩ := mf_4 hO820 hc868
                        have t872 := fI_of hc868 p870
                        obtain ⟨f873, p874, t875⟩ := mf_38 hO820 hc868
                        have t876 := fI_of hc868 p874
                        obtain ⟨f877, p878⟩ := mf_15 hO820 hc868
                        have t879 := fI_of hc868 p878
                        obtain ⟨f880, p881⟩ := mf_16 hO820 hc868
                        have t882 := fI_of hc868 p881
                        obtain ⟨f883, p884⟩ := mf_17 hO820 hc868
                        have t885 := fI_of hc868 p884
                        obtain ⟨f886, p887⟩ := mf_50 hO820 hc868
                        have t888 := fI_of hc868 p887
                        obtain ⟨f889, p890⟩ := mf_51 hO820 hc868
                        have t891 := fI_of hc868 p890
                        obtain ⟨f892, p893⟩ := mf_52 hO820 hc868
                        have t894 := fI_of hc868 p893
                        obtain ⟨f895, p896⟩ := mf_53 hO820 hc868
                        have t897 := fI_of hc868 p896
                        have z898 := any_r x864
                        exact ih583 x580 x864 _ hO820 (hu607.tr hu820) (by omega) (px608.y (by omega) (by unfold SPi; (try dsimp only); omega) fx863.1 fx863.2 (show a5.toInt ≤ x580.toInt by omega) (by omega) (by omega) rfl) (by omega)
            have z899 := any_r x33
            exact L581 _ x33 a5 _ hO237 un.rf (by omega) (px41.i (fun d q p k => by have k1 := k.1.1; have k2 := k.2.2; (try dsimp only at k2); unfold SPi at q; (try dsimp only at q); omega) (fun q => absurd q (by decide))) (Nat.lt_succ_self _)
        · have t900 := t240 c241
          clear t239 t240
          have lk901 := t900
          obtain ⟨fs902, hc903⟩ := hO237.mod
          obtain ⟨f904, p905⟩ := mf_52 hO237 hc903
          have t906 := fI_of hc903 p905
          obtain ⟨f907, p908⟩ := mf_53 hO237 hc903
          have t909 := fI_of hc903 p908
          rw [rt_c (CEm_of hO0 hX0) (KWm.un hO0 hu40 (by decide)) (by omega) (by omega), VM_c hO0 hu40, gI_keep (a := 102) (kd := 0) (n := 150) hO0 hu40 _ (by decide) rfl (by decide) rfl (by decide) (by decide)] at lk901
          refine ur_go rfl ?_
          refine ur_incV (fun z => [some (.inr (.inr (some 69))), some (.inl a1), some (.inl a2), some (.inl a3), some (.inl a4), some (.inl a5), some (.inl x33), some (.inl z), u35, u36]) rfl rfl (fun _ => rfl) (fun x910 e911 => ?_)
          have t912 := ti_add e911 (by omega) (by omega)
          refine ur_go rfl ?_
          obtain ⟨f913, p914, t915⟩ := mf_4 hO237 hc903
          have t916 := fI_of hc903 p914
          obtain ⟨f917, p918, t919⟩ := mf_38 hO237 hc903
          have t920 := fI_of hc903 p918
          obtain ⟨f921, p922⟩ := mf_15 hO237 hc903
          have t923 := fI_of hc903 p922
          obtain ⟨f924, p925⟩ := mf_16 hO237 hc903
          have t926 := fI_of hc903 p925
          obtain ⟨f927, p928⟩ := mf_17 hO237 hc903
          have t929 := fI_of hc903 p928
          obtain ⟨f930, p931⟩ := mf_50 hO237 hc903
          have t932 := fI_of hc903 p931
          obtain ⟨f933, p934⟩ := mf_51 hO237 hc903
          have t935 := fI_of hc903 p934
          have z936 := any_r x33
          have z937 := any_r x910
          exact ih39 x33 x910 _ _ _ hO237 (hu40.tr hu237) (by omega) (px41.o (fun d q _ => Or.inl (fun k => by have k1 := k.1.1; unfold SPi at q; (try dsimp only at q); omega)) (fun q => absurd q (by decide)) (by omega) rfl) (by omega)
  exact L37 _ (-1) 0 (none) (none) _ hO0 un.rf (by omega) (FIq.z (by omega) (by omega) rfl (by omega)) (Nat.lt_succ_self _)
end SG4
