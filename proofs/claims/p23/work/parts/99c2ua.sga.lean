/-! SIGHT: years put right; printed by program but for its head -/
section SGA
/-! SIGHT: how many days or words, and years put right -/
noncomputable def cnI (P : Int → Prop) (lo : Int) : Nat → Int
  | 0 => 0
  | n + 1 => cnI P lo n + @ite Int (P (lo + (n : Int))) (Classical.propDecidable _) 1 0
/-- how many from lo to ahead of m are P -/
noncomputable def cq (P : Int → Prop) (lo m : Int) : Int := cnI P lo (m - lo).toNat
theorem cq_z {P : Int → Prop} {lo m : Int} (h : m ≤ lo) : cq P lo m = 0 := by
  unfold cq
  rw [show (m - lo).toNat = 0 by omega]
  rfl
theorem cq_s {P : Int → Prop} {lo m m' : Int} (h : lo ≤ m) (e : m' = m + 1) : cq P lo m' = cq P lo m + @ite Int (P m) (Classical.propDecidable _) 1 0 := by
  subst e
  unfold cq
  rw [show (m + 1 - lo).toNat = (m - lo).toNat + 1 by omega]
  show cnI P lo (m - lo).toNat + @ite Int (P (lo + ((m - lo).toNat : Int))) (Classical.propDecidable _) 1 0 = _
  rw [show lo + ((m - lo).toNat : Int) = m by omega]
theorem cq_y {P : Int → Prop} {lo m m' : Int} (h : lo ≤ m) (p : P m) (e : m' = m + 1) : cq P lo m' = cq P lo m + 1 := by
  rw [cq_s h e, if_pos p]
theorem cq_n {P : Int → Prop} {lo m m' : Int} (h : lo ≤ m) (p : ¬ P m) (e : m' = m + 1) : cq P lo m' = cq P lo m := by
  rw [cq_s h e, if_neg p, Int.add_zero]
theorem cq_m {P : Int → Prop} {lo a : Int} (h : lo ≤ a) (n : Nat) : cq P lo a ≤ cq P lo (a + (n : Int)) ∧ cq P lo (a + (n : Int)) ≤ cq P lo a + (n : Int) ∧ (cq P lo a < cq P lo (a + (n : Int)) ↔ ∃ d, a ≤ d ∧ d < a + (n : Int) ∧ P d) := by
  induction n with
  | zero =>
    rw [show a + ((0 : Nat) : Int) = a by omega]
    exact ⟨by omega, by omega, fun q => by omega, fun ⟨d, d0, d1, _⟩ => by omega⟩
  | succ n ih =>
    obtain ⟨i1, i2, i3⟩ := ih
    by_cases p : P (a + (n : Int))
    · rw [cq_y (P := P) (lo := lo) (m := a + (n : Int)) (m' := a + ((n + 1 : Nat) : Int)) (by omega) p (by omega)]
      exact ⟨by omega, by omega, fun _ => ⟨a + (n : Int), by omega, by omega, p⟩, fun _ => by omega⟩
    · rw [cq_n (P := P) (lo := lo) (m := a + (n : Int)) (m' := a + ((n + 1 : Nat) : Int)) (by omega) p (by omega)]
      refine ⟨i1, by omega, fun q => ?_, fun ⟨d, d0, d1, k⟩ => ?_⟩
      · obtain ⟨d, d0, d1, k⟩ := i3.mp q
        exact ⟨d, d0, by omega, k⟩
      · refine i3.mpr ⟨d, d0, ?_, k⟩
        by_cases l : d < a + (n : Int)
        · exact l
        · obtain rfl : d = a + (n : Int) := by omega
          exact absurd k p
theorem cq_lt {P : Int → Prop} {lo a b : Int} (h : lo ≤ a) (hb : a ≤ b) : cq P lo a < cq P lo b ↔ ∃ d, a ≤ d ∧ d < b ∧ P d := by
  have k := (cq_m (P := P) h (b - a).toNat).2.2
  rw [show a + ((b - a).toNat : Int) = b by omega] at k
  exact k
theorem cq_r {P : Int → Prop} {lo m : Int} (h : lo ≤ m) : 0 ≤ cq P lo m ∧ cq P lo m ≤ m - lo := by
  have k := cq_m (P := P) (Int.le_refl lo) (m - lo).toNat
  rw [show lo + ((m - lo).toNat : Int) = m by omega, cq_z (Int.le_refl lo)] at k
  omega
theorem cq_le {P : Int → Prop} {lo a b : Int} (h : lo ≤ a) (hb : a ≤ b) : cq P lo a ≤ cq P lo b := by
  have k := (cq_m (P := P) h (b - a).toNat).1
  rw [show a + ((b - a).toNat : Int) = b by omega] at k
  exact k
theorem cn_c {P Q : Int → Prop} {lo : Int} (n : Nat) (e : ∀ d, lo ≤ d → d < lo + (n : Int) → (P d ↔ Q d)) : cnI P lo n = cnI Q lo n := by
  induction n with
  | zero => rfl
  | succ n ih =>
    have i := ih (fun d d0 d1 => e d d0 (by omega))
    have k := e (lo + (n : Int)) (by omega) (by omega)
    show cnI P lo n + @ite Int (P (lo + (n : Int))) (Classical.propDecidable _) 1 0 = cnI Q lo n + @ite Int (Q (lo + (n : Int))) (Classical.propDecidable _) 1 0
    rw [i]
    by_cases p : P (lo + (n : Int))
    · rw [if_pos p, if_pos (k.mp p)]
    · rw [if_neg p, if_neg (fun q => p (k.mpr q))]
theorem cq_c {P Q : Int → Prop} {lo m : Int} (e : ∀ d, lo ≤ d → d < m → (P d ↔ Q d)) : cq P lo m = cq Q lo m := cn_c _ (fun d d0 d1 => e d d0 (by omega))
/-- array a counts P's among the first ones, up to m -/
def CTa (h : aH) (a : Nat) (P : Int → Prop) (m : Int) : Prop := ∀ i : Int, 0 ≤ i → i ≤ m → gI h a i = cq P 0 i
theorem CTa.un {W : List Nat} {h h' : aH} {a : Nat} {P : Int → Prop} {m : Int} (H : CTa h a P m) (hO : OK h) (g : un W h h') (k1 : a < 114) (k2 : T0.getD a (999, 0) = (0, 242)) (k3 : scA a = false) (k4 : a ∉ W) : CTa h' a P m := fun i i0 i1 => by
  rw [gI_keep (a := a) (kd := 0) (n := 242) hO g i k1 k2 (by decide) k3 (by decide) k4]
  exact H i i0 i1
theorem CTa.e {h h' : aH} {a : Nat} {P : Int → Prop} {m : Int} (H : CTa h a P m) (e : gI h' a = gI h a) : CTa h' a P m := fun i i0 i1 => by
  rw [e]
  exact H i i0 i1
theorem CTa.m {h : aH} {a : Nat} {P : Int → Prop} {m m' : Int} (H : CTa h a P m) (e : m' ≤ m) : CTa h a P m' := fun i i0 i1 => H i i0 (by omega)
theorem CTa.z {h : aH} {a : Nat} {P : Int → Prop} {m : Int} (e : gI h a 0 = 0) (hm : m ≤ 0) : CTa h a P m := fun i i0 i1 => by
  obtain rfl : i = 0 := by omega
  rw [e, cq_z (Int.le_refl 0)]
theorem CTa.r {h : aH} {a : Nat} {P : Int → Prop} {m : Int} (H : CTa h a P m) {i : Int} (i0 : 0 ≤ i) (i1 : i ≤ m) : 0 ≤ gI h a i ∧ gI h a i ≤ i := by
  rw [H i i0 i1]
  have := cq_r (P := P) i0
  omega
theorem CTa.s {h h' : aH} {a : Nat} {P : Int → Prop} {m m' j x : Int} (H : CTa h a P m) (sq : ∀ i : Int, 0 ≤ i → (i = j → gI h' a i = x) ∧ (i ≠ j → gI h' a i = gI h a i)) (ej : j = m + 1) (ex : (P m ∧ x = gI h a m + 1) ∨ (¬ P m ∧ x = gI h a m)) (m0 : 0 ≤ m) (e : m' = m + 1) : CTa h' a P m' := fun i i0 i1 => by
  by_cases q : i = j
  · rw [(sq i i0).1 q]
    rcases ex with ⟨p, ex⟩ | ⟨p, ex⟩
    · rw [ex, H m m0 (Int.le_refl m)]
      exact (cq_y m0 p (by omega)).symm
    · rw [ex, H m m0 (Int.le_refl m)]
      exact (cq_n m0 p (by omega)).symm
  · rw [(sq i i0).2 q]
    exact H i i0 (by omega)
/-- some day of span i, moved, that is counted -/
def HCi (V : Int → Int) (sl t : Int) (P : Int → Prop) (i : Int) : Prop := ∃ j, (0 ≤ j ∧ j ≤ 240) ∧ SPi V sl (j + t - 120) i ∧ P j
theorem HCi.iff {g : Int → Int} {P : Int → Prop} {V : Int → Int} {sl t i f u u' vF vT : Int} (H : ∀ i : Int, 0 ≤ i → i ≤ 241 → g i = cq P 0 i) (hF : vF = spF (V i) sl) (hT : vT = spT (V i) sl) (ef : vF - t + 120 ≤ f ∧ 0 ≤ f ∧ (f = vF - t + 120 ∨ f = 0)) (eu : u ≤ vT - t + 120 ∧ u ≤ 240 ∧ (u = vT - t + 120 ∨ u = 240)) (e : u' = u + 1) : HCi V sl t P i ↔ (f ≤ u ∧ g f < g u') := by
  subst e
  constructor
  · rintro ⟨j, r, s, p⟩
    have s : spF (V i) sl ≤ j + t - 120 ∧ j + t - 120 ≤ spT (V i) sl := s
    have fu : f ≤ j ∧ j ≤ u := by omega
    refine ⟨by omega, ?_⟩
    rw [H f (by omega) (by omega), H (u + 1) (by omega) (by omega)]
    exact (cq_lt (by omega) (by omega)).mpr ⟨j, fu.1, by omega, p⟩
  · rintro ⟨fu, l⟩
    rw [H f (by omega) (by omega), H (u + 1) (by omega) (by omega)] at l
    obtain ⟨j, j0, j1, p⟩ := (cq_lt (by omega) (by omega)).mp l
    refine ⟨j, by omega, ?_, p⟩
    show spF (V i) sl ≤ j + t - 120 ∧ j + t - 120 ≤ spT (V i) sl
    omega
def HCx (n : Int) (V : Int → Int) (sl t : Int) (P : Int → Prop) : Prop := ∃ i, (0 ≤ i ∧ i < n) ∧ HCi V sl t P i
theorem mv_F {h : aH} {z : Nat} {i mv x : Int} (e : x = (if (if i = 0 then fO h z 11 else fO h z 12) - fO h z 4 + mv < 0 then 0 else (if i = 0 then fO h z 11 else fO h z 12) - fO h z 4 + mv)) : x = spF (VC h z i + mv) (fO h z 4) := by
  have e : x = (if VC h z i - fO h z 4 + mv < 0 then 0 else VC h z i - fO h z 4 + mv) := e
  rw [e]
  unfold spF
  split <;> split <;> omega
theorem mv_T {h : aH} {z : Nat} {i mv x : Int} (e : x = (if 999999 < (if i = 0 then fO h z 11 else fO h z 12) + fO h z 4 + mv then 999999 else (if i = 0 then fO h z 11 else fO h z 12) + fO h z 4 + mv)) : x = spT (VC h z i + mv) (fO h z 4) := by
  have e : x = (if 999999 < VC h z i + fO h z 4 + mv then 999999 else VC h z i + fO h z 4 + mv) := e
  rw [e]
  unfold spT
  split <;> split <;> omega
/-- an equation that no arithmetic looks at -/
def hid (p : Prop) : Prop := p
theorem hid_b {x v lo hi : Int} (e : hid (x = v)) (b : lo ≤ v ∧ v ≤ hi) : lo ≤ x ∧ x ≤ hi := by
  have e : x = v := e
  rw [e]
  exact b
theorem mq_m {h : aH} {z : Nat} {i : Int} (m : MVq h z) (i0 : 0 ≤ i) (i1 : i < fO h z 10) : (0 ≤ fO h z 4 ∧ fO h z 4 ≤ 400) ∧ (i = 0 → -2000000 ≤ fO h z 11 ∧ fO h z 11 ≤ 2000000) ∧ (i ≠ 0 → -2000000 ≤ fO h z 12 ∧ fO h z 12 ≤ 2000000) := by
  unfold MVq at m
  omega
theorem mq_n {h : aH} {z : Nat} (m : MVq h z) : 1 ≤ fO h z 10 ∧ fO h z 10 ≤ 2 := by
  unfold MVq at m
  omega
theorem MVq.un {W : List Nat} {h h' : aH} {z : Nat} (m : MVq h z) (hO : OK h) (g : un W h h') (t : 114 ≤ z ∧ tg h z = (110, 13)) (w : ∀ k ∈ [22004, 22010, 22011, 22012], k ∉ W) : MVq h' z := by
  unfold MVq
  rw [fO_wu hO g t (k := 4) (by decide) (w _ (by decide)), fO_wu hO g t (k := 10) (by decide) (w _ (by decide)), fO_wu hO g t (k := 11) (by decide) (w _ (by decide)), fO_wu hO g t (k := 12) (by decide) (w _ (by decide))]
  exact m
theorem spm_b {V sl mv : Int} (h : -2000000 ≤ V ∧ V ≤ 2000000 ∧ 0 ≤ sl ∧ sl ≤ 400) (m : -400 ≤ mv ∧ mv ≤ 400) : (0 ≤ spF (V + mv) sl ∧ spF (V + mv) sl ≤ 2000400) ∧ (-2000800 ≤ spT (V + mv) sl ∧ spT (V + mv) sl ≤ 999999) := by
  unfold spF spT
  constructor
  · split <;> omega
  · split <;> omega
/-- what is counted of day j of the window of a return -/
def PAd (F T t : Int) (C A : Int → Prop) (j : Int) : Prop := (F ≤ j + t - 120 ∧ j + t - 120 ≤ T) ∧ C (j + t - 120) ∧ A (j + t - 120)
def PBd (F T t : Int) (C A : Int → Prop) (j : Int) : Prop := (F ≤ j + t - 120 ∧ j + t - 120 ≤ T) ∧ C (j + t - 120) ∧ ¬ A (j + t - 120)
section PAB
variable {F T t j d : Int} {C A : Int → Prop}
theorem PAd.y (e : d = j + t - 120) (f : F ≤ d ∧ d ≤ T) (c : C d) (a : A d) : PAd F T t C A j := by
  subst e
  exact ⟨f, c, a⟩
theorem PBd.y (e : d = j + t - 120) (f : F ≤ d ∧ d ≤ T) (c : C d) (a : ¬ A d) : PBd F T t C A j := by
  subst e
  exact ⟨f, c, a⟩
theorem PAd.f (e : d = j + t - 120) (f : ¬ (F ≤ d ∧ d ≤ T)) : ¬ PAd F T t C A j := by
  subst e
  exact fun q => f q.1
theorem PBd.f (e : d = j + t - 120) (f : ¬ (F ≤ d ∧ d ≤ T)) : ¬ PBd F T t C A j := by
  subst e
  exact fun q => f q.1
theorem PAd.c (e : d = j + t - 120) (c : ¬ C d) : ¬ PAd F T t C A j := by
  subst e
  exact fun q => c q.2.1
theorem PBd.c (e : d = j + t - 120) (c : ¬ C d) : ¬ PBd F T t C A j := by
  subst e
  exact fun q => c q.2.1
theorem PAd.a (e : d = j + t - 120) (a : ¬ A d) : ¬ PAd F T t C A j := by
  subst e
  exact fun q => a q.2.2
theorem PBd.a (e : d = j + t - 120) (a : A d) : ¬ PBd F T t C A j := by
  subst e
  exact fun q => q.2.2 a
end PAB
/-- the days that some move could bring a word to -/
def CDL (V : Int → Int) (sl n F T : Int) : Prop := ∀ i mv d : Int, (0 ≤ i ∧ i < n) → (-400 ≤ mv ∧ mv ≤ 400) → SPi (fun i => V i + mv) sl d i → F ≤ d ∧ d ≤ T
theorem CDL.z {V : Int → Int} {sl n F T : Int} (h : n ≤ 0) : CDL V sl n F T := fun i mv d hi => by omega
theorem CDL.s {V : Int → Int} {sl n n' F T F' T' : Int} (H : CDL V sl n F T) (eF : F' ≤ F ∧ F' ≤ spF (V n + -400) sl) (eT : T ≤ T' ∧ spT (V n + 400) sl ≤ T') (e : n' = n + 1) : CDL V sl n' F' T' := fun i mv d hi hm s => by
  by_cases q : i < n
  · have := H i mv d ⟨hi.1, q⟩ hm s
    omega
  · obtain rfl : i = n := by omega
    have s : spF (V i + mv) sl ≤ d ∧ d ≤ spT (V i + mv) sl := s
    have f : spF (V i + -400) sl ≤ spF (V i + mv) sl := by
      unfold spF
      split <;> split <;> omega
    have g : spT (V i + mv) sl ≤ spT (V i + 400) sl := by
      unfold spT
      split <;> split <;> omega
    omega
def CDF (n : Int) (V : Int → Int) (sl t F T : Int) : Prop := ∀ i mv d : Int, (0 ≤ i ∧ i < n) → (-400 ≤ mv ∧ mv ≤ 400) → SPi (fun i => V i + mv) sl d i → -120 ≤ d - t → d - t ≤ 120 → F ≤ d ∧ d ≤ T
theorem CDF.of {n m : Int} {V : Int → Int} {sl t F T F' T' : Int} (H : CDL V sl m F T) (e : n ≤ m) (eF : F' = F ∨ F' = t - 120) (eT : T' = T ∨ T' = t + 120) : CDF n V sl t F' T' := fun i mv d hi hm s d0 d1 => by
  have := H i mv d ⟨hi.1, by omega⟩ hm s
  omega
/-- there is no such day in the window of the return -/
def CDN (n : Int) (V : Int → Int) (sl t : Int) : Prop := ∀ i mv d : Int, (0 ≤ i ∧ i < n) → (-400 ≤ mv ∧ mv ≤ 400) → SPi (fun i => V i + mv) sl d i → ¬ (-120 ≤ d - t ∧ d - t ≤ 120)
theorem CDN.of {n m : Int} {V : Int → Int} {sl t F T F' T' : Int} (H : CDL V sl m F T) (e : n ≤ m) (eF : F' = F ∨ F' = t - 120) (eT : T' = T ∨ T' = t + 120) (c : T' < F') : CDN n V sl t := fun i mv d hi hm s k => by
  have := CDF.of H e eF eT i mv d hi hm s k.1 k.2
  omega
/-- it fits, moved -/
def FTx (n : Int) (V : Int → Int) (sl : Int) (C A W : Int → Prop) (ki : Int) : Prop := FTw n V sl C A ki ∧ ∃ d, FPq n V sl C A W d
theorem FTD.ne {n : Int} {V : Int → Int} {sl : Int} {C A W : Int → Prop} {ki y : Int} (H : FTD n V sl C A W ki y) : y ≠ -1 ↔ FTx n V sl C A W ki := by
  rcases H with ⟨a, b⟩ | ⟨a, b, c, -⟩
  · exact ⟨fun q => absurd a q, fun ⟨t, d, p⟩ => absurd p (b t d)⟩
  · exact ⟨fun _ => ⟨b, y, c⟩, fun _ => by omega⟩
theorem fx_iff {n : Int} {V : Int → Int} {sl t F T mv ki : Int} {C A : Int → Prop} (H : CDF n V sl t F T) (m : -400 ≤ mv ∧ mv ≤ 400) (hc : ∀ d, C d → -120 ≤ d - t ∧ d - t ≤ 120) : (HCx n (fun i => V i + mv) sl t (PAd F T t C A) ∧ (ki = 7 → HCx n (fun i => V i + mv) sl t (PBd F T t C A))) ↔ FTx n (fun i => V i + mv) sl C A (fun d => -120 ≤ d - t ∧ d - t ≤ 120) ki := by
  constructor
  · rintro ⟨⟨i, hi, j, r, s, f, c, a⟩, tw⟩
    refine ⟨fun k => ?_, j + t - 120, ⟨i, hi, s⟩, c, a, hc _ c⟩
    obtain ⟨i', hi', j', r', s', f', c', a'⟩ := tw k
    exact ⟨j' + t - 120, ⟨i', hi', s'⟩, c', a'⟩
  · rintro ⟨tw, d, ⟨i, hi, s⟩, c, a, w⟩
    refine ⟨⟨i, hi, d - t + 120, by omega, by rw [show d - t + 120 + t - 120 = d by omega]; exact s, PAd.y (d := d) (by omega) (H i mv d hi m s w.1 w.2) c a⟩, fun k => ?_⟩
    obtain ⟨d', ⟨i', hi', s'⟩, c', a'⟩ := tw k
    have w' := hc _ c'
    exact ⟨i', hi', d' - t + 120, by omega, by rw [show d' - t + 120 + t - 120 = d' by omega]; exact s', PBd.y (d := d') (by omega) (H i' mv d' hi' m s' w'.1 w'.2) c' a'⟩
theorem fx_no {n : Int} {V : Int → Int} {sl t mv ki : Int} {C A : Int → Prop} (H : CDN n V sl t) (m : -400 ≤ mv ∧ mv ≤ 400) : ¬ FTx n (fun i => V i + mv) sl C A (fun d => -120 ≤ d - t ∧ d - t ≤ 120) ki := fun ⟨_, d, ⟨i, hi, s⟩, _, _, w⟩ => H i mv d hi m s w
/-- a word that is no copy fits, moved, a return with that pass -/
def FXz (ls l1 : List (List (Int × Int) × List (Int × Int))) (h : aH) (w z : Nat) (t mv : Int) : Prop := FTx (fO h w 10) (fun i => VC h w i + mv) (fO h w 4) (fun d => canP ls (fO h z 2) (fO h z 4) (fO h z 3) (fO h z 5) (fO h w 2) t d) (fun d => asP l1 (fO h w 1) (fO h w 8) (fO h w 2) (fO h z 2) (fO h z 4) (fO h z 3) (fO h z 5) (d - t) d) (fun d => -120 ≤ d - t ∧ d - t ≤ 120) (fO h w 1)
theorem FXz.un {ls l1 : List (List (Int × Int) × List (Int × Int))} {V : List Nat} {h h' : aH} {w z : Nat} {t mv : Int} (hO : OK h) (g : un V h h') (tw : 114 ≤ w ∧ tg h w = (110, 13)) (tz : 114 ≤ z ∧ tg h z = (102, 14)) (v : ∀ k ∈ [21202, 21203, 21204, 21205, 22001, 22002, 22004, 22008, 22010, 22011, 22012], k ∉ V) : FXz ls l1 h' w z t mv ↔ FXz ls l1 h w z t mv := by
  unfold FXz
  rw [fO_wu hO g tw (k := 10) (by decide) (v _ (by decide)), fO_wu hO g tw (k := 4) (by decide) (v _ (by decide)), VC_un hO g tw ⟨v _ (by decide), v _ (by decide)⟩, fO_wu hO g tw (k := 1) (by decide) (v _ (by decide)), fO_wu hO g tw (k := 2) (by decide) (v _ (by decide)), fO_wu hO g tw (k := 8) (by decide) (v _ (by decide)), fO_eA (fC_un hO g tz.1 tz.2 (k := 2) (by decide) (v _ (by decide))), fO_eA (fC_un hO g tz.1 tz.2 (k := 4) (by decide) (v _ (by decide))), fO_eA (fC_un hO g tz.1 tz.2 (k := 3) (by decide) (v _ (by decide))), fO_eA (fC_un hO g tz.1 tz.2 (k := 5) (by decide) (v _ (by decide)))]
/-- .. some return of it -/
def FXk (ls l1 : List (List (Int × Int) × List (Int × Int))) (h : aH) (w z : Nat) (m : Int) : Prop := ∃ k : Int, (fO h z 8 ≤ k ∧ k ≤ fO h z 9) ∧ FXz ls l1 h w z (cf h z k) m
theorem FXk.un {ls l1 : List (List (Int × Int) × List (Int × Int))} {V : List Nat} {h h' : aH} {w z : Nat} {m : Int} (hO : OK h) (g : un V h h') (tw : 114 ≤ w ∧ tg h w = (110, 13)) (tz : 114 ≤ z ∧ tg h z = (102, 14)) (v : ∀ k ∈ [221, 21202, 21203, 21204, 21205, 21208, 21209, 21210, 22001, 22002, 22004, 22008, 22010, 22011, 22012], k ∉ V) : FXk ls l1 h' w z m ↔ FXk ls l1 h w z m := by
  have c : ∀ j, cf h' z j = cf h z j := fun j => cf_un hO g tz.1 tz.2 (fun k hk => v k (by revert hk; revert k; decide))
  have f : ∀ t mv, FXz ls l1 h' w z t mv ↔ FXz ls l1 h w z t mv := fun t mv => FXz.un hO g tw tz (fun k hk => v k (by revert hk; revert k; decide))
  unfold FXk
  rw [fO_eA (fC_un hO g tz.1 tz.2 (k := 8) (by decide) (v _ (by decide))), fO_eA (fC_un hO g tz.1 tz.2 (k := 9) (by decide) (v _ (by decide)))]
  exact ⟨fun ⟨k, r, q⟩ => ⟨k, r, (f _ _).mp (by rw [c] at q; exact q)⟩, fun ⟨k, r, q⟩ => ⟨k, r, by rw [c]; exact (f _ _).mpr q⟩⟩
/-- flags of moves: those that fit a return below k -/
def FKq (g : Int → Int) (E : Int → Prop) : Prop := ∀ m : Int, 0 ≤ m → m ≤ 80 → (g m ≠ 0 ↔ E m)
theorem FKq.c {g : Int → Int} {E E' : Int → Prop} (H : FKq g E) (e : ∀ m, 0 ≤ m → m ≤ 80 → (E' m ↔ E m)) : FKq g E' := fun m m0 m1 => (H m m0 m1).trans (e m m0 m1).symm
theorem FKq.e {g g' : Int → Int} {E : Int → Prop} (H : FKq g E) (e : g' = g) : FKq g' E := by
  subst e
  exact H
def XKb (z9 : Int) (G : Int → Int → Prop) (k m : Int) : Prop := ∃ j, (z9 ≤ j ∧ j < k) ∧ G j m
theorem XKb.s {z9 : Int} {G : Int → Int → Prop} {k k' m : Int} (h : z9 ≤ k) (e : k' = k + 1) : XKb z9 G k' m ↔ (XKb z9 G k m ∨ G k m) := by
  subst e
  constructor
  · rintro ⟨j, r, q⟩
    by_cases l : j < k
    · exact Or.inl ⟨j, ⟨r.1, l⟩, q⟩
    · obtain rfl : j = k := by omega
      exact Or.inr q
  · rintro (⟨j, r, q⟩ | q)
    · exact ⟨j, ⟨r.1, by omega⟩, q⟩
    · exact ⟨k, ⟨h, by omega⟩, q⟩
/-- one more flag is looked at -/
theorem FKq.o {g : Int → Int} {E G : Int → Prop} {i i' : Int} (H : FKq g (fun m => E m ∨ (m < i ∧ G m))) (c : g i ≠ 0 ∨ ¬ G i) (i0 : 0 ≤ i ∧ i ≤ 80) (e : i' = i + 1) : FKq g (fun m => E m ∨ (m < i' ∧ G m)) := fun m m0 m1 => by
  subst e
  refine (H m m0 m1).trans ⟨fun q => q.imp id (fun q => ⟨by omega, q.2⟩), fun q => ?_⟩
  rcases q with q | ⟨l, q⟩
  · exact Or.inl q
  · by_cases k : m < i
    · exact Or.inr ⟨k, q⟩
    · obtain rfl : m = i := by omega
      rcases c with c | c
      · exact (H m m0 m1).mp c
      · exact absurd q c
theorem FKq.w {g g' : Int → Int} {E G : Int → Prop} {i i' : Int} (H : FKq g (fun m => E m ∨ (m < i ∧ G m))) (sq : ∀ m : Int, 0 ≤ m → (m = i → g' m = 1) ∧ (m ≠ i → g' m = g m)) (c : G i) (e : i' = i + 1) : FKq g' (fun m => E m ∨ (m < i' ∧ G m)) := fun m m0 m1 => by
  subst e
  by_cases k : m = i
  · rw [(sq m m0).1 k]
    subst k
    exact ⟨fun _ => Or.inr ⟨by omega, c⟩, fun _ => by decide⟩
  · rw [(sq m m0).2 k]
    refine (H m m0 m1).trans ⟨fun q => q.imp id (fun q => ⟨by omega, q.2⟩), fun q => q.imp id (fun q => ⟨by omega, q.2⟩)⟩
theorem FKq.i {g : Int → Int} {E G : Int → Prop} {i : Int} (H : FKq g E) (e : i ≤ 0) : FKq g (fun m => E m ∨ (m < i ∧ G m)) := fun m m0 m1 => (H m m0 m1).trans ⟨Or.inl, fun q => q.elim id (fun q => by omega)⟩
theorem FKq.f {g : Int → Int} {E E' G : Int → Prop} {i : Int} (H : FKq g (fun m => E m ∨ (m < i ∧ G m))) (e : 81 ≤ i) (h : ∀ m, E' m ↔ (E m ∨ G m)) : FKq g E' := fun m m0 m1 => (H m m0 m1).trans ⟨fun q => (h m).mpr (q.imp id (fun q => q.2)), fun q => ((h m).mp q).imp id (fun q => ⟨by omega, q⟩)⟩
/-- the counts of moves, up to move i -/
def MCq (g0 g : Int → Int) (E : Int → Prop) (i : Int) : Prop := ∀ m : Int, 0 ≤ m → m ≤ 80 → (m < i → (E m → g m = g0 m + 1) ∧ (¬ E m → g m = g0 m)) ∧ (i ≤ m → g m = g0 m)
theorem MCq.z {g0 g : Int → Int} {E : Int → Prop} {i : Int} (e : g = g0) (h : i ≤ 0) : MCq g0 g E i := fun m m0 m1 => by
  subst e
  exact ⟨fun l => by omega, fun _ => rfl⟩
theorem MCq.n {g0 g : Int → Int} {E : Int → Prop} {i i' : Int} (H : MCq g0 g E i) (n : ¬ E i) (e : i' = i + 1) : MCq g0 g E i' := fun m m0 m1 => by
  subst e
  obtain ⟨a, b⟩ := H m m0 m1
  refine ⟨fun l => ?_, fun l => b (by omega)⟩
  by_cases k : m < i
  · exact a k
  · obtain rfl : m = i := by omega
    exact ⟨fun q => absurd q n, fun _ => b (by omega)⟩
theorem MCq.y {g0 g g' : Int → Int} {E : Int → Prop} {i i' x : Int} (H : MCq g0 g E i) (sq : ∀ m : Int, 0 ≤ m → (m = i → g' m = x) ∧ (m ≠ i → g' m = g m)) (ex : x = g i + 1) (y : E i) (i0 : 0 ≤ i ∧ i ≤ 80) (e : i' = i + 1) : MCq g0 g' E i' := fun m m0 m1 => by
  subst e
  obtain ⟨a, b⟩ := H m m0 m1
  by_cases k : m = i
  · rw [(sq m m0).1 k]
    subst k
    have := b (Int.le_refl m)
    exact ⟨fun _ => ⟨fun _ => by omega, fun q => absurd y q⟩, fun l => by omega⟩
  · rw [(sq m m0).2 k]
    exact ⟨fun l => a (by omega), fun l => b (by omega)⟩
theorem FKq.z {g : Int → Int} {z9 k i : Int} {G : Int → Int → Prop} (H : ∀ m : Int, 0 ≤ m → m < i → g m = 0) (e : 81 ≤ i) (hk : k ≤ z9) : FKq g (XKb z9 G k) := fun m m0 m1 => by
  rw [H m m0 (by omega)]
  exact ⟨fun q => absurd rfl q, fun ⟨j, r, _⟩ => by omega⟩
theorem FXk.of {ls l1 : List (List (Int × Int) × List (Int × Int))} {h : aH} {w z : Nat} {k m : Int} (e : k = fO h z 9 + 1) : FXk ls l1 h w z (10 * m - 400) ↔ XKb (fO h z 8) (fun j m => FXz ls l1 h w z (cf h z j) (10 * m - 400)) k m := by
  subst e
  exact ⟨fun ⟨j, r, q⟩ => ⟨j, ⟨r.1, by omega⟩, q⟩, fun ⟨j, r, q⟩ => ⟨j, ⟨r.1, by omega⟩, q⟩⟩
theorem ZFq.s {g g' : Int → Int} {i i' x : Int} (H : ∀ m : Int, 0 ≤ m → m < i → g m = 0) (sq : ∀ m : Int, 0 ≤ m → (m = i → g' m = x) ∧ (m ≠ i → g' m = g m)) (ex : x = 0) (e : i' = i + 1) : ∀ m : Int, 0 ≤ m → m < i' → g' m = 0 := fun m m0 m1 => by
  by_cases q : m = i
  · rw [(sq m m0).1 q, ex]
  · rw [(sq m m0).2 q]
    exact H m m0 (by omega)
theorem CTa.o {h : aH} {a : Nat} {P : Int → Prop} {m : Int} (H : CTa h a P m) (m0 : 0 ≤ m) : gI h a 0 = 0 := by
  rw [H 0 (Int.le_refl 0) m0, cq_z (Int.le_refl 0)]
theorem sq_w {h h' : aH} {a n : Nat} {J X : Int32} (hl : (arI h a).length = n) (w : wI h h' a ((arI h a).set J.toInt.toNat X)) (hJ : 0 ≤ J.toInt ∧ J.toInt.toNat < n) : ∀ i : Int, 0 ≤ i → (i = J.toInt → gI h' a i = X.toInt) ∧ (i ≠ J.toInt → gI h' a i = gI h a i) := fun i i0 => by
  have s := gI_sq (j := i) hl w.1 hJ.2 i0
  exact ⟨fun c => s.1 (by omega), fun c => s.2 (by omega)⟩
theorem sq_e {h h' h2 : aH} {a : Nat} {j x : Int} (s : ∀ i : Int, 0 ≤ i → (i = j → gI h' a i = x) ∧ (i ≠ j → gI h' a i = gI h a i)) (e : gI h2 a = gI h' a) : ∀ i : Int, 0 ≤ i → (i = j → gI h2 a i = x) ∧ (i ≠ j → gI h2 a i = gI h a i) := by
  rw [e]
  exact s
theorem gI_fk {W : List Nat} {h h' : aH} {a kd n : Nat} (hO : OK h) (g : un W h h') (ha : a < 114) (ht : T0.getD a (999, 0) = (kd, n)) (hk : kd < 4) (h1 : scA a = false) (h2 : (kd, n) ∉ meM) (h3 : a ∉ W) : gI h' a = gI h a := funext fun j => gI_keep hO g j ha ht hk h1 h2 h3
theorem sd_fillI {W : List Nat} {h : aH} {d kc ks : Nat} {Q : Option aV → aH → Prop} {a m : Nat} {v : Int32} {xs : List Int32} (hO : OK h) (ha : h[a]? = some (.inr (0, .inl xs))) (hn : xs.length = m) (hm : m < 2147483648) (hv : (rng a).1 ≤ v.toInt ∧ v.toInt ≤ (rng a).2) (hw : scA a = true ∨ (0, m) ∈ meM ∨ wid a (0, m) ∈ W) (k : ∀ h', OK h' → un W h h' → (∀ b, b ≠ a → h'[b]? = h[b]?) → h'[a]? = some (.inr (0, .inl (List.replicate m v))) → Q none h') (hz : m ≠ 10 ∨ zI a = [] := by first | exact Or.inl (by decide) | exact Or.inr rfl) : uCall Mt (d + 1) 307 [.inr (.inr (some a)), .inl v] h kc ks Q := by
  refine uCall_kc (mc := 0) (ms := 0) (uc_post (sp_fillI (by omega) ha) (fun r h' e => ?_))
  obtain ⟨rfl, rfl⟩ := e
  refine k _ (hO.set ha (by simp [tgC, aLen]) ⟨_, rfl, fill_el hv, nmZ.z (zI_of hO ha hn hz)⟩) (un.ars ha (by simp [aLen]) ?_) set_ne ((hs_eq ha).trans (by rw [hn]))
  show scA a = true ∨ (0, xs.length) ∈ meM ∨ wid a (0, xs.length) ∈ W
  rw [hn]
  exact hw
theorem gI_rep {h : aH} {a n : Nat} {v : Int32} {i : Int} (e : arI h a = List.replicate n v) (i0 : 0 ≤ i) (i1 : i < (n : Int)) : gI h a i = v.toInt := by
  unfold gI
  rw [e, List.getD_eq_getElem?_getD, List.getElem?_replicate_of_lt (by omega)]
  rfl
/-- the words that fit, moved -/
def RWF (ls l1 : List (List (Int × Int) × List (Int × Int))) (h : aH) (pe : Int) (z : Nat) (m j : Int) : Prop := ∃ w, wz h j w ∧ fO h w 2 = pe ∧ fO h w 1 ≠ 3 ∧ FXk ls l1 h w z m
/-- b stands ahead of m among moves of like counts -/
def RKm (b m : Int) : Prop := (b < 0 ∧ m < 0 ∧ m ≤ b) ∨ (b < 0 ∧ 0 ≤ m ∧ -b ≤ m) ∨ (0 ≤ b ∧ m < 0 ∧ b < -m) ∨ (0 ≤ b ∧ 0 ≤ m ∧ b ≤ m)
def BSm (g : Int → Int) (D : Int → Prop) (b : Int) : Prop := D b ∧ ∀ m, D m → g m < g b ∨ (g m = g b ∧ RKm b m)
theorem BSm.u {g g' : Int → Int} {D : Int → Prop} {b c : Int} (a : BSm g D b) (a' : BSm g' D c) (e : ∀ m, D m → g' m = g m) : b = c := by
  have p := a.2 c a'.1
  have q := a'.2 b a.1
  rw [e b a.1, e c a'.1] at q
  unfold RKm at p q
  omega
theorem BSm.c {g : Int → Int} {D D' : Int → Prop} {b : Int} (a : BSm g D b) (e : ∀ m, D' m ↔ D m) : BSm g D' b := ⟨(e b).mpr a.1, fun m k => a.2 m ((e m).mp k)⟩
theorem BSm.k {g : Int → Int} {D D' : Int → Prop} {b i : Int} (a : BSm g D b) (e : ∀ m, D' m ↔ (D m ∨ m = i)) (c : g i < g b ∨ (g i = g b ∧ RKm b i)) : BSm g D' b := ⟨(e b).mpr (Or.inl a.1), fun m k => by
  rcases (e m).mp k with k | k
  · exact a.2 m k
  · rw [k]
    exact c⟩
theorem BSm.n {g : Int → Int} {D D' : Int → Prop} {b i : Int} (a : BSm g D b) (e : ∀ m, D' m ↔ (D m ∨ m = i)) (c : g b < g i ∨ (g i = g b ∧ RKm i b)) : BSm g D' i := ⟨(e i).mpr (Or.inr rfl), fun m k => by
  rcases (e m).mp k with k | k
  · have := a.2 m k
    unfold RKm at c this ⊢
    omega
  · rw [k]
    exact Or.inr ⟨rfl, by unfold RKm; omega⟩⟩
/-- the moves of the class, the first i of them; those of the reference -/
def DMc (i m : Int) : Prop := ∃ q, (0 ≤ q ∧ q < i) ∧ m = 10 * q - 400
theorem DMc.s {i i' m : Int} (i0 : 0 ≤ i) (e : i' = i + 1) : DMc i' m ↔ (DMc i m ∨ m = 10 * i - 400) := by
  subst e
  constructor
  · rintro ⟨q, r, k⟩
    by_cases l : q < i
    · exact Or.inl ⟨q, ⟨r.1, l⟩, k⟩
    · exact Or.inr (by omega)
  · rintro (⟨q, r, k⟩ | k)
    · exact ⟨q, ⟨r.1, by omega⟩, k⟩
    · exact ⟨i, ⟨i0, by omega⟩, k⟩
def DMr (s g m : Int) : Prop := (∃ q, m = 10 * q) ∧ ((-s < m ∧ m < s) ∨ (m = -s ∧ 1 ≤ g) ∨ (m = s ∧ 3 ≤ g))
theorem DMr.up {s g m : Int} (s1 : s % 10 = 0) (hg : g = -1) : DMr s 1 m ↔ (DMr s g m ∨ m = -s) := by
  subst hg
  unfold DMr
  constructor
  · rintro ⟨q, k⟩
    rcases k with k | k | k
    · exact Or.inl ⟨q, Or.inl k⟩
    · exact Or.inr k.1
    · omega
  · rintro (⟨q, k⟩ | k)
    · refine ⟨q, ?_⟩
      omega
    · exact ⟨⟨m / 10, by omega⟩, by omega⟩
theorem DMr.vp {s g m : Int} (s1 : s % 10 = 0) (hg : g = 1) : DMr s 3 m ↔ (DMr s g m ∨ m = s) := by
  subst hg
  unfold DMr
  constructor
  · rintro ⟨q, k⟩
    rcases k with k | k | k
    · exact Or.inl ⟨q, Or.inl k⟩
    · exact Or.inl ⟨q, Or.inr (Or.inl ⟨k.1, by omega⟩)⟩
    · exact Or.inr k.1
  · rintro (⟨q, k⟩ | k)
    · refine ⟨q, ?_⟩
      omega
    · exact ⟨⟨m / 10, by omega⟩, by omega⟩
theorem DMr.st {s g g' i m : Int} (s1 : s % 10 = 0) (h : (g = -1 ∧ g' = 1 ∧ i = -s) ∨ (g = 1 ∧ g' = 3 ∧ i = s)) : DMr s g' m ↔ (DMr s g m ∨ m = i) := by
  rcases h with ⟨a, b, c⟩ | ⟨a, b, c⟩
  · subst b c
    exact DMr.up s1 a
  · subst b c
    exact DMr.vp s1 a
theorem DMr.nx {s s' g m : Int} (s1 : s % 10 = 0) (s0 : 0 ≤ s) (hg : g = 3) (e : s' = s + 10) : DMr s' (-1) m ↔ DMr s g m := by
  obtain ⟨t, rfl⟩ : ∃ t, s = 10 * t := ⟨s / 10, by omega⟩
  subst hg e
  unfold DMr
  constructor
  · rintro ⟨⟨q, rfl⟩, k⟩
    refine ⟨⟨q, rfl⟩, ?_⟩
    have q1 : -t ≤ q := by omega
    have q2 : q ≤ t := by omega
    by_cases c : q = -t
    · exact Or.inr (Or.inl ⟨by omega, by decide⟩)
    · by_cases d : q = t
      · exact Or.inr (Or.inr ⟨by omega, by decide⟩)
      · exact Or.inl ⟨by omega, by omega⟩
  · rintro ⟨⟨q, rfl⟩, k⟩
    exact ⟨⟨q, rfl⟩, Or.inl (by omega)⟩
theorem DMr.rk {s g i b : Int} (h : DMr s g b) (k : (g = -1 ∧ i = -s) ∨ (g = 1 ∧ i = s)) (s0 : 0 < s) : RKm b i := by
  obtain ⟨-, q⟩ := h
  unfold RKm
  omega
theorem DMr.dc {s m : Int} (e : s = 410) : DMc 81 m ↔ DMr s (-1) m := by
  subst e
  unfold DMr DMc
  constructor
  · rintro ⟨q, r, e⟩
    exact ⟨⟨q - 40, by omega⟩, by omega⟩
  · rintro ⟨⟨q, e⟩, k⟩
    exact ⟨q + 40, by omega, by omega⟩
theorem DMr.z {G : Int → Int} {b s : Int} (e : s = 10) (eb : b = 0) : BSm G (DMr s (-1)) b := by
  subst e eb
  refine ⟨⟨⟨0, by decide⟩, by omega⟩, fun m k => ?_⟩
  obtain ⟨⟨q, e⟩, k⟩ := k
  obtain rfl : m = 0 := by omega
  exact Or.inr ⟨rfl, by unfold RKm; omega⟩
theorem BSm.g {g g' : Int → Int} {D : Int → Prop} {b : Int} (a : BSm g D b) (e : ∀ m, D m → g' m = g m) : BSm g' D b := ⟨a.1, fun m k => by
  rw [e m k, e b a.1]
  exact a.2 m k⟩
theorem BM_of {g G : Int → Int} {a x : Int} (e : ∀ q, 0 ≤ q → q ≤ 80 → g q = G (10 * q - 400)) (f : ∃ b, (0 ≤ b ∧ b ≤ 80) ∧ BSm (fun mv => g ((mv + 400) / 10)) (DMc 81) (10 * b - 400) ∧ (a = 0 → x = 10 * b - 400) ∧ (a ≠ 0 → x = g b)) : ∃ b, BSm G (DMc 81) b ∧ (a = 0 → x = b) ∧ (a ≠ 0 → x = G b) := by
  obtain ⟨b, b0, B, x0, x1⟩ := f
  refine ⟨10 * b - 400, B.g (fun m k => ?_), x0, fun q => (x1 q).trans (e b b0.1 b0.2)⟩
  obtain ⟨q, r, rfl⟩ := k
  show G (10 * q - 400) = g ((10 * q - 400 + 400) / 10)
  rw [show (10 * q - 400 + 400) / 10 = q by omega]
  exact (e q r.1 (by omega)).symm
/-- the counts of all moves, of the first j words -/
def RCq (g : Int → Int) (R : Int → Int → Prop) (j : Int) : Prop := ∀ q : Int, 0 ≤ q → q ≤ 80 → g q = cq (R (10 * q - 400)) 0 j
theorem RCq.z {g : Int → Int} {R : Int → Int → Prop} {j : Int} (H : ∀ m : Int, 0 ≤ m → m ≤ 80 → g m = 0) (e : j ≤ 0) : RCq g R j := fun q q0 q1 => by
  rw [H q q0 q1, cq_z e]
theorem RCq.s {g g' : Int → Int} {R : Int → Int → Prop} {j j' : Int} (H : RCq g R j) (P : ∀ q : Int, 0 ≤ q → q ≤ 80 → (R (10 * q - 400) j → g' q = g q + 1) ∧ (¬ R (10 * q - 400) j → g' q = g q)) (j0 : 0 ≤ j) (e : j' = j + 1) : RCq g' R j' := fun q q0 q1 => by
  have h := H q q0 q1
  obtain ⟨a, b⟩ := P q q0 q1
  by_cases r : R (10 * q - 400) j
  · rw [a r, cq_y j0 r e, h]
  · rw [b r, cq_n j0 r e, h]
theorem RCq.r {g : Int → Int} {R : Int → Int → Prop} {j : Int} (H : RCq g R j) (j0 : 0 ≤ j) {q : Int} (q0 : 0 ≤ q) (q1 : q ≤ 80) : 0 ≤ g q ∧ g q ≤ j := by
  rw [H q q0 q1]
  have := cq_r (P := R (10 * q - 400)) j0
  omega
theorem RCq.e {g : Int → Int} {R : Int → Int → Prop} {j n : Int} (H : RCq g R j) (e : j = n) : ∀ q, 0 ≤ q → q ≤ 80 → g q = (fun mv => cq (R mv) 0 n) (10 * q - 400) := by
  subst e
  exact H
theorem RWF.iff {ls l1 : List (List (Int × Int) × List (Int × Int))} {h : aH} {pe : Int} {z w : Nat} {m j : Int} (hw : wz h j w) : RWF ls l1 h pe z m j ↔ (fO h w 2 = pe ∧ fO h w 1 ≠ 3 ∧ FXk ls l1 h w z m) := by
  constructor
  · rintro ⟨w', a, b⟩
    obtain rfl := wz_u hw a
    exact b
  · exact fun b => ⟨w, hw, b⟩
/-- words that are no copies are roots -/
def N3w (h : aH) : Prop := ∀ (i : Int) z, 0 ≤ i → i < fO h 15 1 → wz h i z → fO h z 1 ≠ 3 → rtz h z z
theorem N3w.un {W : List Nat} {h h' : aH} (H : N3w h) (hO : OK h) (hO' : OK h') (g : un W h h') (w : ∀ k ∈ [16, 2501, 22001, 22009], k ∉ W) : N3w h' := fun i z i0 i1 q k => by
  rw [n15_un hO hO' g (w _ (by decide))] at i1
  have q0 := wz_c (arR_u hO g (w _ (by decide))) q
  have t := wz_ok hO q0
  rw [fO_wu hO g t (k := 1) (by decide) (w _ (by decide))] at k
  have r := H i z i0 i1 q0 k
  unfold rtz at r ⊢
  rw [fA_un3 hO g t.1 t.2 (k := 9) (by decide) (w _ (by decide))]
  exact r
/-- the same words, the reference -/
def RMF (ls l1 : List (List (Int × Int) × List (Int × Int))) (h : aH) (M : Nat → List (List (Int × Int) × List (Int × Int))) (pe c mv j : Int) : Prop := gI h 96 j ≠ 3 ∧ gI h 97 j = pe ∧ ¬ LRq (-60) 61 (fun k t => retV (NMh h (gI h 73 c)) (gI h 73 c) (gI h 72 c) k t) (FWm ls l1 h M j c mv)
theorem FWm.e {ls l1 : List (List (Int × Int) × List (Int × Int))} {V : List Nat} {h h' : aH} {M : Nat → List (List (Int × Int) × List (Int × Int))} {w c mv : Int} (hO : OK h) (g : un V h h') (e : rt h' w = rt h w) (v : ∀ k ∈ [74, 75, 76, 77, 90, 91, 92, 96, 97, 98, 99, 100, 101, 102, 103], k ∉ V) : FWm ls l1 h' M w c mv = FWm ls l1 h M w c mv := by
  have k : ∀ a n : Nat, a ∈ [74, 75, 76, 77, 90, 91, 92, 96, 97, 98, 99, 100, 101, 102, 103] → a < 114 → T0.getD a (999, 0) = (0, n) → scA a = false → (0, n) ∉ meM → ∀ j, gI h' a j = gI h a j := fun a n h0 h1 h2 h3 h4 j => gI_keep (a := a) (kd := 0) (n := n) hO g j h1 h2 (by decide) h3 h4 (v a h0)
  funext t
  have q : ∀ y, FMz ls l1 h' M w c t mv (fun d => 0 ≤ d) y = FMz ls l1 h M w c t mv (fun d => 0 ≤ d) y := fun y => by
    unfold FMz
    rw [e, nM_w hO g ⟨v _ (by decide), v _ (by decide)⟩, VM_w hO g (fun q hq => v q (by revert hq; revert q; decide)), k 102 150 (by decide) (by decide) rfl rfl (by decide), k 74 12 (by decide) (by decide) rfl rfl (by decide), k 76 12 (by decide) (by decide) rfl rfl (by decide), k 75 12 (by decide) (by decide) rfl rfl (by decide), k 77 12 (by decide) (by decide) rfl rfl (by decide), k 97 150 (by decide) (by decide) rfl rfl (by decide), k 96 150 (by decide) (by decide) rfl rfl (by decide), k 103 150 (by decide) (by decide) rfl rfl (by decide)]
  refine propext ⟨fun ⟨y, f, n⟩ => ⟨y, ?_, n⟩, fun ⟨y, f, n⟩ => ⟨y, ?_, n⟩⟩
  · rw [← q y]
    exact f
  · rw [q y]
    exact f
theorem RMF.un {ls l1 : List (List (Int × Int) × List (Int × Int))} {V : List Nat} {h h' : aH} {M : Nat → List (List (Int × Int) × List (Int × Int))} {pe c mv n : Int} (hO : OK h) (hO' : OK h') (g : un V h h') (er : ∀ j, 0 ≤ j → j < n → rt h' j = rt h j) (v : ∀ k ∈ [70, 71, 7901, 72, 73, 74, 75, 76, 77, 90, 91, 92, 96, 97, 98, 99, 100, 101, 102, 103], k ∉ V) : cq (RMF ls l1 h' M pe c mv) 0 n = cq (RMF ls l1 h M pe c mv) 0 n := cq_c (fun j j0 j1 => by
  have k : ∀ a m : Nat, a ∈ [72, 73, 96, 97] → a < 114 → T0.getD a (999, 0) = (0, m) → scA a = false → (0, m) ∉ meM → ∀ j, gI h' a j = gI h a j := fun a m h0 h1 h2 h3 h4 j => gI_keep (a := a) (kd := 0) (n := m) hO g j h1 h2 (by decide) h3 h4 (v a ((show ∀ a ∈ [72, 73, 96, 97], a ∈ [70, 71, 7901, 72, 73, 74, 75, 76, 77, 90, 91, 92, 96, 97, 98, 99, 100, 101, 102, 103] by decide) a h0))
  unfold RMF
  rw [k 96 150 (by decide) (by decide) rfl rfl (by decide), k 97 150 (by decide) (by decide) rfl rfl (by decide), k 72 12 (by decide) (by decide) rfl rfl (by decide), k 73 12 (by decide) (by decide) rfl rfl (by decide), show NMh h' (gI h 73 c) = NMh h (gI h 73 c) from nxM_un hO hO' g (v _ (by decide)) (v _ (by decide)) (v _ (by decide)) _, FWm.e hO g (er j j0 j1) (fun q hq => v q (by revert hq; revert q; decide))])
theorem BSm.n2 {g : Int → Int} {D D' : Int → Prop} {b i x y : Int} (a : BSm g D b) (e : ∀ m, D' m ↔ (D m ∨ m = i)) (hx : x = g i) (hy : y = g b) (c : y < x) : BSm g D' i := a.n e (Or.inl (by rw [← hx, ← hy]; exact c))
theorem BSm.k2 {g : Int → Int} {D D' : Int → Prop} {b i x y : Int} (a : BSm g D b) (e : ∀ m, D' m ↔ (D m ∨ m = i)) (hx : x = g i) (hy : y = g b) (c : x ≤ y) (r : RKm b i) : BSm g D' b := a.k e (by
  rw [← hx, ← hy]
  by_cases q : x < y
  · exact Or.inl q
  · exact Or.inr ⟨by omega, r⟩)
theorem mul_pm {x y z : Int32} (e : x * y = z) (h2 : 0 ≤ y.toInt ∧ y.toInt ≤ 1000000) : (x.toInt = -1 → z.toInt = -y.toInt) ∧ (x.toInt = 1 → z.toInt = y.toInt) := by
  constructor
  · intro h
    have := ti_mulR e h (by omega) (by omega)
    omega
  · intro h
    have := ti_mulR e h (by omega) (by omega)
    omega
set_option maxRecDepth 20000 in
set_option maxHeartbeats 4000000 in
theorem sy_X10_movedFrom {d kc ks : Nat} {h0 : aH} {Q : Option aV → aH → Prop} (hO0 : OK h0) {a0 : Nat} (g0 : 114 ≤ a0) (t0 : tg h0 a0 = (110, 13)) (a1 : Int32) (a2 : Int32) (b2 : -400 ≤ a2.toInt ∧ a2.toInt ≤ 400) (pre0 : (0 ≤ fO h0 a0 4 ∧ fO h0 a0 4 ≤ 400) ∧ (a1.toInt = 0 → -2000000 ≤ fO h0 a0 11 ∧ fO h0 a0 11 ≤ 2000000) ∧ (a1.toInt ≠ 0 → -2000000 ≤ fO h0 a0 12 ∧ fO h0 a0 12 ≤ 2000000)) (hQ : ∀ r, (∃ x : Int32, r = some (.inl x) ∧ (x.toInt = (if (if a1.toInt = 0 then fO h0 a0 11 else fO h0 a0 12) - fO h0 a0 4 + a2.toInt < 0 then 0 else (if a1.toInt = 0 then fO h0 a0 11 else fO h0 a0 12) - fO h0 a0 4 + a2.toInt))) → Q r h0) : uCall Mt (d + 1) 121 [(.inr (.inr (some a0))), (.inl a1), (.inl a2)] h0 kc ks Q := by
  have l_0 : ((0) : Int32).toInt = 0 := by decide
  refine uc_ink [some (.inr (.inr (some a0))), some (.inl a1), some (.inl a2)] mt_121 (Nat.le_of_ble_eq_true rfl) rfl ?_
  obtain ⟨g18, f3, f4, f5, f6, f7, f8, f9, f10, f11, o15, f12, f13, f14, hc2, k16, k17⟩ := hO0.word t0
  have t1 := fO_of (k := 4) hc2 rfl
  have t19 := fO_of (k := 11) hc2 rfl
  have t20 := fO_of (k := 12) hc2 rfl
  refine ur_ldI rfl rfl ?_
  refine ur_if1 rfl (fun c21 => ?_) (fun c21 => ?_)
  · have t22 := ne_to c21
    refine ur_ldA rfl rfl ?_
    refine ur_get rfl hc2 rfl ?_
    refine ur_ldA rfl rfl ?_
    refine ur_get rfl hc2 rfl ?_
    refine ur_binV rfl (fun x23 e24 => ?_)
    have z25 := any_r f14
    have z26 := any_r f7
    have t27 := ti_sub e24 (by omega) (by omega)
    refine ur_ldI rfl rfl ?_
    refine ur_binV rfl (fun x28 e29 => ?_)
    have z30 := any_r x23
    have z31 := any_r a2
    have t32 := ti_add e29 (by omega) (by omega)
    refine ur_push rfl ?_
    refine ur_maxV rfl (by show ¬ 9 ≤ 2; decide) (fun x33 t34 e35 => ?_)
    exact ur_ret rfl rfl (hQ _ ⟨_, rfl, (by split <;> split <;> omega)⟩ )
  · have t36 := ne_no c21
    refine ur_ldA rfl rfl ?_
    refine ur_get rfl hc2 rfl ?_
    refine ur_go rfl ?_
    refine ur_ldA rfl rfl ?_
    refine ur_get rfl hc2 rfl ?_
    refine ur_binV rfl (fun x37 e38 => ?_)
    have z39 := any_r f13
    have z40 := any_r f7
    have t41 := ti_sub e38 (by omega) (by omega)
    refine ur_ldI rfl rfl ?_
    refine ur_binV rfl (fun x42 e43 => ?_)
    have z44 := any_r x37
    have z45 := any_r a2
    have t46 := ti_add e43 (by omega) (by omega)
    refine ur_push rfl ?_
    refine ur_maxV rfl (by show ¬ 9 ≤ 2; decide) (fun x47 t48 e49 => ?_)
    exact ur_ret rfl rfl (hQ _ ⟨_, rfl, (by split <;> split <;> omega)⟩ )

set_option maxRecDepth 20000 in
set_option maxHeartbeats 4000000 in
theorem sy_X10_movedTo {d kc ks : Nat} {h0 : aH} {Q : Option aV → aH → Prop} (hO0 : OK h0) {a0 : Nat} (g0 : 114 ≤ a0) (t0 : tg h0 a0 = (110, 13)) (a1 : Int32) (a2 : Int32) (b2 : -400 ≤ a2.toInt ∧ a2.toInt ≤ 400) (pre0 : (0 ≤ fO h0 a0 4 ∧ fO h0 a0 4 ≤ 400) ∧ (a1.toInt = 0 → -2000000 ≤ fO h0 a0 11 ∧ fO h0 a0 11 ≤ 2000000) ∧ (a1.toInt ≠ 0 → -2000000 ≤ fO h0 a0 12 ∧ fO h0 a0 12 ≤ 2000000)) (hQ : ∀ r, (∃ x : Int32, r = some (.inl x) ∧ (x.toInt = (if 999999 < (if a1.toInt = 0 then fO h0 a0 11 else fO h0 a0 12) + fO h0 a0 4 + a2.toInt then 999999 else (if a1.toInt = 0 then fO h0 a0 11 else fO h0 a0 12) + fO h0 a0 4 + a2.toInt))) → Q r h0) : uCall Mt (d + 1) 122 [(.inr (.inr (some a0))), (.inl a1), (.inl a2)] h0 kc ks Q := by
  have l_0 : ((0) : Int32).toInt = 0 := by decide
  have l_999999 : ((999999) : Int32).toInt = 999999 := by decide
  refine uc_ink [some (.inr (.inr (some a0))), some (.inl a1), some (.inl a2)] mt_122 (Nat.le_of_ble_eq_true rfl) rfl ?_
  obtain ⟨g18, f3, f4, f5, f6, f7, f8, f9, f10, f11, o15, f12, f13, f14, hc2, k16, k17⟩ := hO0.word t0
  have t1 := fO_of (k := 4) hc2 rfl
  have t19 := fO_of (k := 11) hc2 rfl
  have t20 := fO_of (k := 12) hc2 rfl
  refine ur_ldI rfl rfl ?_
  refine ur_if1 rfl (fun c21 => ?_) (fun c21 => ?_)
  · have t22 := ne_to c21
    refine ur_ldA rfl rfl ?_
    refine ur_get rfl hc2 rfl ?_
    refine ur_ldA rfl rfl ?_
    refine ur_get rfl hc2 rfl ?_
    refine ur_binV rfl (fun x23 e24 => ?_)
    have z25 := any_r f14
    have z26 := any_r f7
    have t27 := ti_add e24 (by omega) (by omega)
    refine ur_ldI rfl rfl ?_
    refine ur_binV rfl (fun x28 e29 => ?_)
    have z30 := any_r x23
    have z31 := any_r a2
    have t32 := ti_add e29 (by omega) (by omega)
    refine ur_push rfl ?_
    refine ur_minV rfl (by show ¬ 9 ≤ 2; decide) (fun x33 t34 e35 => ?_)
    exact ur_ret rfl rfl (hQ _ ⟨_, rfl, (by split <;> split <;> omega)⟩ )
  · have t36 := ne_no c21
    refine ur_ldA rfl rfl ?_
    refine ur_get rfl hc2 rfl ?_
    refine ur_go rfl ?_
    refine ur_ldA rfl rfl ?_
    refine ur_get rfl hc2 rfl ?_
    refine ur_binV rfl (fun x37 e38 => ?_)
    have z39 := any_r f13
    have z40 := any_r f7
    have t41 := ti_add e38 (by omega) (by omega)
    refine ur_ldI rfl rfl ?_
    refine ur_binV rfl (fun x42 e43 => ?_)
    have z44 := any_r x37
    have z45 := any_r a2
    have t46 := ti_add e43 (by omega) (by omega)
    refine ur_push rfl ?_
    refine ur_minV rfl (by show ¬ 9 ≤ 2; decide) (fun x47 t48 e49 => ?_)
    exact ur_ret rfl rfl (hQ _ ⟨_, rfl, (by split <;> split <;> omega)⟩ )

set_option maxRecDepth 20000 in
set_option maxHeartbeats 4000000 in
theorem sy_X7_moveOf {d kc ks : Nat} {h0 : aH} {Q : Option aV → aH → Prop} (a0 : Int32) (b0 : 0 ≤ a0.toInt ∧ a0.toInt ≤ 80) (hQ : ∀ r, (∃ x : Int32, r = some (.inl x) ∧ (x.toInt = 10 * a0.toInt - 400)) → Q r h0) : uCall Mt (d + 1) 82 [(.inl a0)] h0 kc ks Q := by
  have l_10 : ((10) : Int32).toInt = 10 := by decide
  have l_400 : ((400) : Int32).toInt = 400 := by decide
  refine uc_ink [some (.inl a0)] mt_82 (Nat.le_of_ble_eq_true rfl) rfl ?_
  refine ur_ldI rfl rfl ?_
  refine ur_push rfl ?_
  refine ur_binV rfl (fun x1 e2 => ?_)
  have z3 := any_r a0
  have t4 := ti_mulL e2 l_10 (by omega) (by omega)
  refine ur_push rfl ?_
  refine ur_binV rfl (fun x5 e6 => ?_)
  have z7 := any_r x1
  have t8 := ti_sub e6 (by omega) (by omega)
  exact ur_ret rfl rfl (hQ _ ⟨_, rfl, (by omega)⟩ )

set_option maxRecDepth 20000 in
set_option maxHeartbeats 4000000 in
theorem sy_X7_hasCounted {d kc ks : Nat} {h0 : aH} {Q : Option aV → aH → Prop} {P : Int → Prop} (hO0 : OK h0) {a1 : Nat} (t1 : tg h0 a1 = (0, 242)) {a2 : Nat} (g2 : 114 ≤ a2) (t2 : tg h0 a2 = (110, 13)) (a3 : Int32) (b3 : 0 ≤ a3.toInt ∧ a3.toInt ≤ 999999) (a4 : Int32) (b4 : -400 ≤ a4.toInt ∧ a4.toInt ≤ 400) (pre0 : MVq h0 a2) (pre1 : CTa h0 a1 P 241) (hQ : ∀ r, (∃ q, r = some (.inl (bi q)) ∧ (q = true → HCx (fO h0 a2 10) (fun i => VC h0 a2 i + a4.toInt) (fO h0 a2 4) a3.toInt P) ∧ (q = false → ¬ HCx (fO h0 a2 10) (fun i => VC h0 a2 i + a4.toInt) (fO h0 a2 4) a3.toInt P)) → Q r h0) : uCall Mt (d + 2) 86 [(.inr (.inr (some 41))), (.inr (.inr (some a1))), (.inr (.inr (some a2))), (.inl a3), (.inl a4)] h0 kc ks Q := by
  have l_m1 : ((-1) : Int32).toInt = -1 := by decide
  have l_0 : ((0) : Int32).toInt = 0 := by decide
  have l_1 : ((1) : Int32).toInt = 1 := by decide
  have l_120 : ((120) : Int32).toInt = 120 := by decide
  have l_240 : ((240) : Int32).toInt = 240 := by decide
  refine uc_ink [some (.inr (.inr (some 41))), some (.inr (.inr (some a1))), some (.inr (.inr (some a2))), some (.inl a3), some (.inl a4), none, none, none] mt_86 (Nat.le_of_ble_eq_true rfl) rfl ?_
  have tt1 := mq_n pre0
  obtain ⟨g18, f3, f4, f5, f6, f7, f8, f9, f10, f11, o15, f12, f13, f14, hc2, k16, k17⟩ := hO0.word t2
  have t19 := fO_of (k := 10) hc2 rfl
  refine ur_push rfl ?_
  refine ur_svIk [some (.inr (.inr (some 41))), some (.inr (.inr (some a1))), some (.inr (.inr (some a2))), some (.inl a3), some (.inl a4), some (.inl 0), none, none] rfl rfl ?_
  have L23 : ∀ (m24 : Nat) (x20 : Int32) (u21 : Option aV) (u22 : Option aV) , ((0 ≤ x20.toInt ∧ x20.toInt ≤ 2) ∧ x20.toInt ≤ fO h0 a2 10) → (LKq 0 x20.toInt (HCi (fun i => VC h0 a2 i + a4.toInt) (fO h0 a2 4) a3.toInt P)) → ((3 - x20.toInt).toNat) < m24 → uRun oX7_hasCounted (uCall Mt (d + 1)) Q 3 ([some (.inr (.inr (some 41))), some (.inr (.inr (some a1))), some (.inr (.inr (some a2))), some (.inl a3), some (.inl a4), some (.inl x20), u21, u22], [], h0, kc, ks) := by
    intro m24
    induction m24 with
    | zero => intro x20 u21 u22 iv27 px26 mm28; omega
    | succ m24 ih25 =>
      intro x20 u21 u22 iv27 px26 mm28
      refine ur_ldI rfl rfl ?_
      refine ur_ldA rfl rfl ?_
      refine ur_get rfl hc2 rfl ?_
      have z29 := any_r x20
      have z30 := any_r f12
      refine ur_if2 rfl (fun c31 => ?_) (fun c31 => ?_)
      · have t32 := le_to c31
        refine ur_push rfl ?_
        exact ur_ret rfl rfl (hQ _ ⟨false, rfl, fun e => absurd e (by decide), fun _ => (fun ⟨i, hi, q⟩ => px26 i hi.1 (by omega) q)⟩ )
      · have t33 := le_no c31
        refine ur_ldA rfl rfl ?_
        refine ur_ldI rfl rfl ?_
        refine ur_ldI rfl rfl ?_
        refine ur_inl rfl (rcv_of hc2) (Nat.le_of_ble_eq_true rfl) (Nat.le_of_ble_eq_true rfl) (sy_X10_movedFrom hO0 g18 t2 _ _ (by show -400 ≤ a4.toInt ∧ a4.toInt ≤ 400; omega) (mq_m pre0 (i := x20.toInt) (by omega) (by omega)) (fun w34 hr35 => ?_))
        obtain ⟨x36, rfl, f37⟩ := hr35
        show uRun _ (uCall Mt _) _ 20 (_, [(.inl x36)], _, _, _)
        have tb39 := ((spm_b (mv := a4.toInt) (VC_b pre0 (i := x20.toInt) (by omega) (by omega)) (by omega)).1)
        have e38 : hid (x36.toInt = spF (VC h0 a2 x20.toInt + a4.toInt) (fO h0 a2 4)) := mv_F f37
        clear f37
        have tt40 := hid_b e38 tb39
        clear tb39
        refine ur_ldI rfl rfl ?_
        refine ur_binV rfl (fun x41 e42 => ?_)
        have z43 := any_r x36
        have z44 := any_r a3
        have t45 := ti_sub e42 (by omega) (by omega)
        refine ur_push rfl ?_
        refine ur_binV rfl (fun x46 e47 => ?_)
        have z48 := any_r x41
        have t49 := ti_add e47 (by omega) (by omega)
        refine ur_push rfl ?_
        refine ur_maxV rfl (by show ¬ 9 ≤ 2; decide) (fun x50 t51 e52 => ?_)
        refine ur_svIk [some (.inr (.inr (some 41))), some (.inr (.inr (some a1))), some (.inr (.inr (some a2))), some (.inl a3), some (.inl a4), some (.inl x20), some (.inl x50), u22] rfl rfl ?_
        refine ur_ldA rfl rfl ?_
        refine ur_ldI rfl rfl ?_
        refine ur_ldI rfl rfl ?_
        refine ur_inl rfl (rcv_of hc2) (Nat.le_of_ble_eq_true rfl) (Nat.le_of_ble_eq_true rfl) (sy_X10_movedTo hO0 g18 t2 _ _ (by show -400 ≤ a4.toInt ∧ a4.toInt ≤ 400; omega) (mq_m pre0 (i := x20.toInt) (by omega) (by omega)) (fun w53 hr54 => ?_))
        obtain ⟨x55, rfl, f56⟩ := hr54
        show uRun _ (uCall Mt _) _ 39 (_, [(.inl x55)], _, _, _)
        have tb58 := ((spm_b (mv := a4.toInt) (VC_b pre0 (i := x20.toInt) (by omega) (by omega)) (by omega)).2)
        have e57 : hid (x55.toInt = spT (VC h0 a2 x20.toInt + a4.toInt) (fO h0 a2 4)) := mv_T f56
        clear f56
        have tt59 := hid_b e57 tb58
        clear tb58
        refine ur_ldI rfl rfl ?_
        refine ur_binV rfl (fun x60 e61 => ?_)
        have z62 := any_r x55
        have t63 := ti_sub e61 (by omega) (by omega)
        refine ur_push rfl ?_
        refine ur_binV rfl (fun x64 e65 => ?_)
        have z66 := any_r x60
        have t67 := ti_add e65 (by omega) (by omega)
        refine ur_push rfl ?_
        refine ur_minV rfl (by show ¬ 9 ≤ 2; decide) (fun x68 t69 e70 => ?_)
        refine ur_svIk [some (.inr (.inr (some 41))), some (.inr (.inr (some a1))), some (.inr (.inr (some a2))), some (.inl a3), some (.inl a4), some (.inl x20), some (.inl x50), some (.inl x68)] rfl rfl ?_
        refine ur_ldI rfl rfl ?_
        refine ur_ldI rfl rfl ?_
        have z71 := any_r x50
        have z72 := any_r x68
        refine ur_if2 rfl (fun c73 => ?_) (fun c73 => ?_)
        · have t74 := lt_to c73
          refine ur_incV (fun z => [some (.inr (.inr (some 41))), some (.inr (.inr (some a1))), some (.inr (.inr (some a2))), some (.inl a3), some (.inl a4), some (.inl z), some (.inl x50), some (.inl x68)]) rfl rfl (fun _ => rfl) (fun x75 e76 => ?_)
          have t77 := ti_add e76 (by omega) (by omega)
          refine ur_go rfl ?_
          have z78 := any_r x75
          exact ih25 x75 _ _ (by omega) (px26.s (fun q => absurd ((HCi.iff (g := gI h0 a1) (P := P) (V := fun i => VC h0 a2 i + a4.toInt) (sl := fO h0 a2 4) (t := a3.toInt) (i := x20.toInt) (f := x50.toInt) (u := x68.toInt) (u' := x68.toInt + 1) pre1 e38 e57 (by omega) (by omega) (by omega)).mp q) (by omega)) (by omega)) (by omega)
        · have t79 := lt_no c73
          refine ur_ldI rfl rfl ?_
          refine ur_ldA rfl rfl ?_
          obtain ⟨xs81, hc80, hn82, he83⟩ := hO0.int t1
          refine ur_lenV (m := 242) rfl hc80 hn82 (by decide) (fun x84 t85 => ?_)
          have z86 := any_r x84
          refine ur_if2 rfl (fun c87 => ?_) (fun c87 => ?_)
          · have t88 := le_to c87
            exfalso
            omega
          · have t89 := le_no c87
            refine ur_ldI rfl rfl ?_
            refine ur_push rfl ?_
            refine ur_if2 rfl (fun c90 => ?_) (fun c90 => ?_)
            · have t91 := lt_to c90
              exfalso
              omega
            · have t92 := lt_no c90
              refine ur_ldA rfl rfl ?_
              refine ur_ldI rfl rfl ?_
              refine ur_push rfl ?_
              refine ur_binV rfl (fun x93 e94 => ?_)
              have t95 := ti_add e94 (by omega) (by omega)
              refine ur_aldV rfl hc80 hn82 (by omega) (fun x96 hx97 => ?_)
              have t98 := gI_of (j := x93) hc80 hx97
              refine ur_ldA rfl rfl ?_
              refine ur_ldI rfl rfl ?_
              refine ur_aldV rfl hc80 hn82 (by omega) (fun x99 hx100 => ?_)
              have t101 := gI_of (j := x50) hc80 hx100
              have z102 := any_r x96
              have z103 := any_r x99
              refine ur_if2 rfl (fun c104 => ?_) (fun c104 => ?_)
              · have t105 := le_to c104
                refine ur_incV (fun z => [some (.inr (.inr (some 41))), some (.inr (.inr (some a1))), some (.inr (.inr (some a2))), some (.inl a3), some (.inl a4), some (.inl z), some (.inl x50), some (.inl x68)]) rfl rfl (fun _ => rfl) (fun x106 e107 => ?_)
                have t108 := ti_add e107 (by omega) (by omega)
                refine ur_go rfl ?_
                have z109 := any_r x106
                exact ih25 x106 _ _ (by omega) (px26.s (fun q => absurd ((HCi.iff (g := gI h0 a1) (P := P) (V := fun i => VC h0 a2 i + a4.toInt) (sl := fO h0 a2 4) (t := a3.toInt) (i := x20.toInt) (f := x50.toInt) (u := x68.toInt) (u' := x93.toInt) pre1 e38 e57 (by omega) (by omega) (by omega)).mp q) (by omega)) (by omega)) (by omega)
              · have t110 := le_no c104
                refine ur_push rfl ?_
                exact ur_ret rfl rfl (hQ _ ⟨true, rfl, fun _ => ⟨x20.toInt, ⟨by omega, by omega⟩, (HCi.iff (g := gI h0 a1) (P := P) (V := fun i => VC h0 a2 i + a4.toInt) (sl := fO h0 a2 4) (t := a3.toInt) (i := x20.toInt) (f := x50.toInt) (u := x68.toInt) (u' := x93.toInt) pre1 e38 e57 (by omega) (by omega) (by omega)).mpr ⟨by omega, by omega⟩⟩, fun e => absurd e (by decide)⟩ )
  exact L23 _ 0 (none) (none) (by omega) (LKq.z (by omega)) (Nat.lt_succ_self _)

set_option maxRecDepth 20000 in
set_option maxHeartbeats 4000000 in
theorem sy_X7_isFitMoved {d kc ks : Nat} {h0 : aH} {Q : Option aV → aH → Prop} {PA PB : Int → Prop} (hO0 : OK h0) {a1 : Nat} (g1 : 114 ≤ a1) (t1 : tg h0 a1 = (110, 13)) (a2 : Int32) (b2 : 0 ≤ a2.toInt ∧ a2.toInt ≤ 999999) (a3 : Int32) (b3 : -400 ≤ a3.toInt ∧ a3.toInt ≤ 400) (pre0 : MVq h0 a1) (pre1 : CTa h0 47 PA 241) (pre2 : CTa h0 48 PB 241) (hQ : ∀ r, (∃ q, r = some (.inl (bi q)) ∧ (q = true → (HCx (fO h0 a1 10) (fun i => VC h0 a1 i + a3.toInt) (fO h0 a1 4) a2.toInt PA ∧ (fO h0 a1 1 = 7 → HCx (fO h0 a1 10) (fun i => VC h0 a1 i + a3.toInt) (fO h0 a1 4) a2.toInt PB))) ∧ (q = false → ¬ (HCx (fO h0 a1 10) (fun i => VC h0 a1 i + a3.toInt) (fO h0 a1 4) a2.toInt PA ∧ (fO h0 a1 1 = 7 → HCx (fO h0 a1 10) (fun i => VC h0 a1 i + a3.toInt) (fO h0 a1 4) a2.toInt PB)))) → Q r h0) : uCall Mt (d + 3) 85 [(.inr (.inr (some 41))), (.inr (.inr (some a1))), (.inl a2), (.inl a3)] h0 kc ks Q := by
  have l_0 : ((0) : Int32).toInt = 0 := by decide
  have l_1 : ((1) : Int32).toInt = 1 := by decide
  have l_7 : ((7) : Int32).toInt = 7 := by decide
  refine uc_ink [some (.inr (.inr (some 41))), some (.inr (.inr (some a1))), some (.inl a2), some (.inl a3)] mt_85 (Nat.le_of_ble_eq_true rfl) rfl ?_
  obtain ⟨g17, f2, f3, f4, f5, f6, f7, f8, f9, f10, o14, f11, f12, f13, hc1, k15, k16⟩ := hO0.word t1
  have t18 := fO_of (k := 1) hc1 rfl
  refine ur_ldA rfl rfl ?_
  refine ur_ldA rfl rfl ?_
  obtain ⟨f20, f21, hc19, k22⟩ := ok_41 hO0
  refine ur_get rfl hc19 rfl ?_
  refine ur_ldA rfl rfl ?_
  refine ur_ldI rfl rfl ?_
  refine ur_ldI rfl rfl ?_
  refine ur_inl rfl (rcv_of hc19) (Nat.le_of_ble_eq_true rfl) (Nat.le_of_ble_eq_true rfl) (sy_X7_hasCounted hO0 (hO0.fix 47 (by decide) rfl) g17 t1 _ (by show 0 ≤ a2.toInt ∧ a2.toInt ≤ 999999; omega) _ (by show -400 ≤ a3.toInt ∧ a3.toInt ≤ 400; omega) pre0 pre1 (fun w23 hr24 => ?_))
  obtain ⟨b25, rfl, t26, t27⟩ := hr24
  show uRun _ (uCall Mt _) _ 11 (_, [(.inl (bi b25))], _, _, _)
  refine ur_eqB rfl (fun c28 => ?_) (fun c28 => ?_)
  · have t29 := t27 c28
    clear t26 t27
    refine ur_push rfl ?_
    exact ur_ret rfl rfl (hQ _ ⟨false, rfl, fun e => absurd e (by decide), fun _ => (fun q => t29 q.1)⟩ )
  · have t30 := t26 c28
    clear t26 t27
    refine ur_ldA rfl rfl ?_
    refine ur_get rfl hc1 rfl ?_
    refine ur_push rfl ?_
    refine ur_if2 rfl (fun c31 => ?_) (fun c31 => ?_)
    · have t32 := ne_to c31
      refine ur_push rfl ?_
      refine ur_go rfl ?_
      exact ur_ret rfl rfl (hQ _ ⟨true, rfl, fun _ => ⟨t30, fun k => by exfalso; omega⟩, fun e => absurd e (by decide)⟩ )
    · have t33 := ne_no c31
      refine ur_ldA rfl rfl ?_
      refine ur_ldA rfl rfl ?_
      refine ur_get rfl hc19 rfl ?_
      refine ur_ldA rfl rfl ?_
      refine ur_ldI rfl rfl ?_
      refine ur_ldI rfl rfl ?_
      refine ur_inl rfl (rcv_of hc19) (Nat.le_of_ble_eq_true rfl) (Nat.le_of_ble_eq_true rfl) (sy_X7_hasCounted hO0 (hO0.fix 48 (by decide) rfl) g17 t1 _ (by show 0 ≤ a2.toInt ∧ a2.toInt ≤ 999999; omega) _ (by show -400 ≤ a3.toInt ∧ a3.toInt ≤ 400; omega) pre0 pre2 (fun w34 hr35 => ?_))
      obtain ⟨b36, rfl, t37, t38⟩ := hr35
      show uRun _ (uCall Mt _) _ 34 (_, [(.inl (bi b36))], _, _, _)
      refine ur_eqB rfl (fun c39 => ?_) (fun c39 => ?_)
      · have t40 := t38 c39
        clear t37 t38
        refine ur_push rfl ?_
        exact ur_ret rfl rfl (hQ _ ⟨false, rfl, fun e => absurd e (by decide), fun _ => (fun q => t40 (q.2 (by omega)))⟩ )
      · have t41 := t37 c39
        clear t37 t38
        refine ur_push rfl ?_
        refine ur_go rfl ?_
        exact ur_ret rfl rfl (hQ _ ⟨true, rfl, fun _ => ⟨t30, fun _ => t41⟩, fun e => absurd e (by decide)⟩ )

set_option maxRecDepth 20000 in
set_option maxHeartbeats 4000000 in
theorem sd_X7_countDays {d kc ks : Nat} {h0 : aH} {Q : Option aV → aH → Prop} {ls : List (List (Int × Int) × List (Int × Int))} {l1 : List (List (Int × Int) × List (Int × Int))} {c0 : Int} (hO0 : OK h0) {a1 : Nat} (g1 : 114 ≤ a1) (t1 : tg h0 a1 = (110, 13)) {a2 : Nat} (g2 : 114 ≤ a2) (t2 : tg h0 a2 = (102, 14)) (a3 : Int32) (b3 : -60 ≤ a3.toInt ∧ a3.toInt ≤ 60) (pre0 : SKc h0) (pre1 : SGc ls h0) (pre2 : (0 ≤ c0 ∧ c0 < fO h0 1 4) ∧ cz h0 c0 a2) (pre3 : txC h0 9 = cfl 0 ls) (pre4 : ∀ l ∈ ls, lnG l) (pre5 : txC h0 11 = cfl 0 l1) (pre6 : ∀ l ∈ l1, lnG l) (pre7 : fO h0 a2 8 ≤ a3.toInt ∧ a3.toInt ≤ fO h0 a2 9) (pre8 : (fO h0 a1 1 = 1 ∨ fO h0 a1 1 = 6) → 0 ≤ fO h0 a1 8 ∧ fO h0 a1 8 ≤ 23) (pre9 : MVq h0 a1) (pre10 : gI h0 47 0 = 0 ∧ gI h0 48 0 = 0) (hQ : ∀ r h', (∃ q, r = some (.inl (bi q)) ∧ (q = true → ∃ F T, CDF (fO h0 a1 10) (VC h0 a1) (fO h0 a1 4) (cf h0 a2 a3.toInt) F T ∧ CTa h' 47 (PAd F T (cf h0 a2 a3.toInt) (fun d => canP ls (fO h0 a2 2) (fO h0 a2 4) (fO h0 a2 3) (fO h0 a2 5) (fO h0 a1 2) (cf h0 a2 a3.toInt) d) (fun d => asP l1 (fO h0 a1 1) (fO h0 a1 8) (fO h0 a1 2) (fO h0 a2 2) (fO h0 a2 4) (fO h0 a2 3) (fO h0 a2 5) (d - (cf h0 a2 a3.toInt)) d)) 241 ∧ CTa h' 48 (PBd F T (cf h0 a2 a3.toInt) (fun d => canP ls (fO h0 a2 2) (fO h0 a2 4) (fO h0 a2 3) (fO h0 a2 5) (fO h0 a1 2) (cf h0 a2 a3.toInt) d) (fun d => asP l1 (fO h0 a1 1) (fO h0 a1 8) (fO h0 a1 2) (fO h0 a2 2) (fO h0 a2 4) (fO h0 a2 3) (fO h0 a2 5) (d - (cf h0 a2 a3.toInt)) d)) 241) ∧ (q = false → CDN (fO h0 a1 10) (VC h0 a1) (fO h0 a1 4) (cf h0 a2 a3.toInt))) → OK h' → un [47, 48, 222, 223, 21212] h0 h' → (SGc ls h') → (gI h' 47 0 = 0 ∧ gI h' 48 0 = 0) → Q r h') : uCall Mt (d + 6) 84 [(.inr (.inr (some 41))), (.inr (.inr (some a1))), (.inr (.inr (some a2))), (.inl a3)] h0 kc ks Q := by
  have l_m400 : ((-400) : Int32).toInt = -400 := by decide
  have l_0 : ((0) : Int32).toInt = 0 := by decide
  have l_1 : ((1) : Int32).toInt = 1 := by decide
  have l_120 : ((120) : Int32).toInt = 120 := by decide
  have l_241 : ((241) : Int32).toInt = 241 := by decide
  have l_400 : ((400) : Int32).toInt = 400 := by decide
  have l_999999 : ((999999) : Int32).toInt = 999999 := by decide
  refine uc_ink [some (.inr (.inr (some 41))), some (.inr (.inr (some a1))), some (.inr (.inr (some a2))), some (.inl a3), none, none, none, none, none, none, none] mt_84 (Nat.le_of_ble_eq_true rfl) rfl ?_
  have cd1 := (pre1.1 c0 a2 pre2.1.1 pre2.1.2 pre2.2).1
  have tt2 := mq_n pre9
  obtain ⟨g19, f4, f5, f6, f7, f8, f9, f10, f11, f12, o16, f13, f14, f15, hc3, k17, k18⟩ := hO0.word t1
  have t20 := fO_of (k := 10) hc3 rfl
  refine ur_ldA rfl rfl ?_
  refine ur_ldI rfl rfl ?_
  obtain ⟨g41, f22, f23, f24, f25, f26, f27, f28, f29, f30, f31, q32, q33, o34, q35, hc21, k36, k37, k38, k39, k40⟩ := hO0.comet t2
  refine ur_inl rfl (rcv_of hc21) (Nat.le_of_ble_eq_true rfl) (Nat.le_of_ble_eq_true rfl) (sd_X2_passOf hO0 g41 t2 _ (by show -60 ≤ a3.toInt ∧ a3.toInt ≤ 60; omega) (fun w42 hr43 => ?_))
  obtain ⟨x44, rfl, f45⟩ := hr43
  show uRun _ (uCall Mt _) _ 5 (_, [(.inl x44)], _, _, _)
  have tt46 : x44.toInt = cf h0 a2 a3.toInt := by unfold cf; rw [if_pos (by omega)]; exact f45
  have tt47 := pre0.rg pre2.1 pre2.2 (k := a3.toInt) (by omega)
  refine ur_svIk [some (.inr (.inr (some 41))), some (.inr (.inr (some a1))), some (.inr (.inr (some a2))), some (.inl a3), some (.inl x44), none, none, none, none, none, none] rfl rfl ?_
  refine ur_push rfl ?_
  refine ur_svIk [some (.inr (.inr (some 41))), some (.inr (.inr (some a1))), some (.inr (.inr (some a2))), some (.inl a3), some (.inl x44), some (.inl 999999), none, none, none, none, none] rfl rfl ?_
  refine ur_push rfl ?_
  refine ur_svIk [some (.inr (.inr (some 41))), some (.inr (.inr (some a1))), some (.inr (.inr (some a2))), some (.inl a3), some (.inl x44), some (.inl 999999), some (.inl 0), none, none, none, none] rfl rfl ?_
  refine ur_push rfl ?_
  refine ur_svIk [some (.inr (.inr (some 41))), some (.inr (.inr (some a1))), some (.inr (.inr (some a2))), some (.inl a3), some (.inl x44), some (.inl 999999), some (.inl 0), some (.inl 0), none, none, none] rfl rfl ?_
  have L51 : ∀ (m52 : Nat) (x48 : Int32) (x49 : Int32) (x50 : Int32) , ((0 ≤ x48.toInt ∧ x48.toInt ≤ 999999) ∧ (0 ≤ x49.toInt ∧ x49.toInt ≤ 999999) ∧ (0 ≤ x50.toInt ∧ x50.toInt ≤ 2) ∧ x50.toInt ≤ fO h0 a1 10) → (CDL (VC h0 a1) (fO h0 a1 4) x50.toInt x48.toInt x49.toInt) → ((3 - x50.toInt).toNat) < m52 → uRun oX7_countDays (uCall Mt (d + 5)) Q 17 ([some (.inr (.inr (some 41))), some (.inr (.inr (some a1))), some (.inr (.inr (some a2))), some (.inl a3), some (.inl x44), some (.inl x48), some (.inl x49), some (.inl x50), none, none, none], [], h0, kc, ks) := by
    intro m52
    induction m52 with
    | zero => intro x48 x49 x50 iv55 px54 mm56; omega
    | succ m52 ih53 =>
      intro x48 x49 x50 iv55 px54 mm56
      refine ur_ldI rfl rfl ?_
      refine ur_ldA rfl rfl ?_
      refine ur_get rfl hc3 rfl ?_
      have z57 := any_r x50
      have z58 := any_r f13
      refine ur_if2 rfl (fun c59 => ?_) (fun c59 => ?_)
      · have t60 := le_to c59
        refine ur_ldI rfl rfl ?_
        refine ur_ldI rfl rfl ?_
        refine ur_push rfl ?_
        refine ur_binV rfl (fun x61 e62 => ?_)
        have z63 := any_r x44
        have t64 := ti_sub e62 (by omega) (by omega)
        refine ur_maxV rfl (by show ¬ 9 ≤ 2; decide) (fun x65 t66 e67 => ?_)
        refine ur_svIk [some (.inr (.inr (some 41))), some (.inr (.inr (some a1))), some (.inr (.inr (some a2))), some (.inl a3), some (.inl x44), some (.inl x65), some (.inl x49), some (.inl x50), none, none, none] rfl rfl ?_
        refine ur_ldI rfl rfl ?_
        refine ur_ldI rfl rfl ?_
        refine ur_push rfl ?_
        refine ur_binV rfl (fun x68 e69 => ?_)
        have t70 := ti_add e69 (by omega) (by omega)
        refine ur_minV rfl (by show ¬ 9 ≤ 2; decide) (fun x71 t72 e73 => ?_)
        refine ur_svIk [some (.inr (.inr (some 41))), some (.inr (.inr (some a1))), some (.inr (.inr (some a2))), some (.inl a3), some (.inl x44), some (.inl x65), some (.inl x71), some (.inl x50), none, none, none] rfl rfl ?_
        refine ur_ldI rfl rfl ?_
        refine ur_ldI rfl rfl ?_
        have z74 := any_r x65
        have z75 := any_r x71
        refine ur_if2 rfl (fun c76 => ?_) (fun c76 => ?_)
        · have t77 := le_to c76
          refine ur_push rfl ?_
          refine ur_svIk [some (.inr (.inr (some 41))), some (.inr (.inr (some a1))), some (.inr (.inr (some a2))), some (.inl a3), some (.inl x44), some (.inl x65), some (.inl x71), some (.inl 0), none, none, none] rfl rfl ?_
          have L82 : ∀ (m83 : Nat) (x78 : Int32) (u79 : Option aV) (u80 : Option aV) (u81 : Option aV) (h85 : aH) , OK h85 → un [47, 48, 222, 223, 21212] h0 h85 → ((0 ≤ x78.toInt ∧ x78.toInt ≤ 241)) → (CTa h85 47 (PAd x65.toInt x71.toInt (cf h0 a2 a3.toInt) (fun d => canP ls (fO h0 a2 2) (fO h0 a2 4) (fO h0 a2 3) (fO h0 a2 5) (fO h0 a1 2) (cf h0 a2 a3.toInt) d) (fun d => asP l1 (fO h0 a1 1) (fO h0 a1 8) (fO h0 a1 2) (fO h0 a2 2) (fO h0 a2 4) (fO h0 a2 3) (fO h0 a2 5) (d - (cf h0 a2 a3.toInt)) d)) x78.toInt) → (CTa h85 48 (PBd x65.toInt x71.toInt (cf h0 a2 a3.toInt) (fun d => canP ls (fO h0 a2 2) (fO h0 a2 4) (fO h0 a2 3) (fO h0 a2 5) (fO h0 a1 2) (cf h0 a2 a3.toInt) d) (fun d => asP l1 (fO h0 a1 1) (fO h0 a1 8) (fO h0 a1 2) (fO h0 a2 2) (fO h0 a2 4) (fO h0 a2 3) (fO h0 a2 5) (d - (cf h0 a2 a3.toInt)) d)) x78.toInt) → (SGc ls h85) → ((242 - x78.toInt).toNat) < m83 → uRun oX7_countDays (uCall Mt (d + 5)) Q 100 ([some (.inr (.inr (some 41))), some (.inr (.inr (some a1))), some (.inr (.inr (some a2))), some (.inl a3), some (.inl x44), some (.inl x65), some (.inl x71), some (.inl x78), u79, u80, u81], [], h85, kc, ks) := by
            intro m83
            induction m83 with
            | zero => intro x78 u79 u80 u81 h85 hO85 hu85 iv89 px86 px87 px88 mm90; omega
            | succ m83 ih84 =>
              intro x78 u79 u80 u81 h85 hO85 hu85 iv89 px86 px87 px88 mm90
              have t91 := fO_of (k := 1) (hu85.ko (n := 13) hc3 rfl (wid_w g19) (by decide)) rfl
              have tt92 : fO h85 a1 1 = fO h0 a1 1 := fO_wu hO0 hu85 ⟨g1, t1⟩ (k := 1) (by decide) (by decide)
              have t93 := fO_of (k := 2) (hu85.ko (n := 13) hc3 rfl (wid_w g19) (by decide)) rfl
              have tt94 : fO h85 a1 2 = fO h0 a1 2 := fO_wu hO0 hu85 ⟨g1, t1⟩ (k := 2) (by decide) (by decide)
              have t95 := fO_of (k := 8) (hu85.ko (n := 13) hc3 rfl (wid_w g19) (by decide)) rfl
              have tt96 : fO h85 a1 8 = fO h0 a1 8 := fO_wu hO0 hu85 ⟨g1, t1⟩ (k := 8) (by decide) (by decide)
              refine ur_ldI rfl rfl ?_
              refine ur_push rfl ?_
              refine ur_if2 rfl (fun c97 => ?_) (fun c97 => ?_)
              · have t98 := le_to c97
                refine ur_push rfl ?_
                exact ur_ret rfl rfl (hQ _ _ ⟨true, rfl, fun _ => ⟨x65.toInt, x71.toInt, (CDF.of px54 (by omega) (by omega) (by omega)), (px86.m (by omega)), (px87.m (by omega))⟩, fun e => absurd e (by decide)⟩ hO85 hu85 px88 ⟨px86.o (by omega), px87.o (by omega)⟩)
              · have t99 := le_no c97
                refine ur_ldI rfl rfl ?_
                refine ur_push rfl ?_
                refine ur_binV rfl (fun x100 e101 => ?_)
                have t102 := ti_sub e101 (by omega) (by omega)
                refine ur_ldI rfl rfl ?_
                refine ur_binV rfl (fun x103 e104 => ?_)
                have z105 := any_r x100
                have z106 := any_r x78
                have t107 := ti_add e104 (by omega) (by omega)
                refine ur_svIk [some (.inr (.inr (some 41))), some (.inr (.inr (some a1))), some (.inr (.inr (some a2))), some (.inl a3), some (.inl x44), some (.inl x65), some (.inl x71), some (.inl x78), some (.inl x103), u80, u81] rfl rfl ?_
                refine ur_ldI rfl rfl ?_
                refine ur_ldI rfl rfl ?_
                refine ur_ldI rfl rfl ?_
                refine ur_callv rfl rfl (Nat.le_of_ble_eq_true rfl) (Nat.le_of_ble_eq_true rfl) rfl (sp_within _ _ _ _ _) ?_
                refine ur_eqB rfl (fun c110 => ?_) (fun c110 => ?_)
                · have t111 := wi_no c110
                  refine ur_push rfl ?_
                  refine ur_svIk [some (.inr (.inr (some 41))), some (.inr (.inr (some a1))), some (.inr (.inr (some a2))), some (.inl a3), some (.inl x44), some (.inl x65), some (.inl x71), some (.inl x78), some (.inl x103), some (.inl 0), u81] rfl rfl ?_
                  refine ur_ldI rfl rfl ?_
                  refine ur_if1t rfl (by decide) ?_
                  refine ur_push rfl ?_
                  refine ur_svIk [some (.inr (.inr (some 41))), some (.inr (.inr (some a1))), some (.inr (.inr (some a2))), some (.inl a3), some (.inl x44), some (.inl x65), some (.inl x71), some (.inl x78), some (.inl x103), some (.inl 0), some (.inl 0)] rfl rfl ?_
                  refine ur_ldA rfl rfl ?_
                  obtain ⟨f113, f114, hc112, k115⟩ := ok_41 hO85
                  refine ur_get rfl hc112 rfl ?_
                  refine ur_ldI rfl rfl ?_
                  refine ur_push rfl ?_
                  refine ur_binV rfl (fun x116 e117 => ?_)
                  have t118 := ti_add e117 (by omega) (by omega)
                  refine ur_ldA rfl rfl ?_
                  refine ur_get rfl hc112 rfl ?_
                  refine ur_ldI rfl rfl ?_
                  obtain ⟨xs120, hc119, hn121, he122⟩ := hO85.int (hO85.fix 47 (by decide) rfl)
                  refine ur_aldV rfl hc119 hn121 (by omega) (fun x123 hx124 => ?_)
                  have t125 := gI_of (j := x78) hc119 hx124
                  have tt126 := (px86.e rfl).r (i := x78.toInt) (by omega) (by omega)
                  refine ur_ldI rfl rfl ?_
                  refine ur_if1t rfl (by decide) ?_
                  refine ur_push rfl ?_
                  refine ur_binV rfl (fun x127 e128 => ?_)
                  have z129 := any_r x123
                  have t130 := ti_add e128 (by omega) (by omega)
                  refine ur_astV (W := [47]) (m := 242) rfl hO85 hc119 (by decide) hn121 (by omega) (any_r _) (Or.inr (Or.inr (wid_fix (by decide) (by decide)))) (fun h133 hO133 hv133 d131 hc132 => ?_)
                  have hu133 : un [47, 48, 222, 223, 21212] h85 h133 := hv133.mono (by decide)
                  have w134 : wI h85 h133 47 ((arI h85 47).set (x116 : Int32).toInt.toNat x127) := ⟨by rw [arI_of hc132, arI_of hc119], d131⟩
                  refine ur_ldA rfl rfl ?_
                  refine ur_get rfl ((d131 _ (by decide)).trans hc112) rfl ?_
                  refine ur_ldI rfl rfl ?_
                  refine ur_push rfl ?_
                  refine ur_binV rfl (fun x135 e136 => ?_)
                  have t137 := ti_add e136 (by omega) (by omega)
                  refine ur_ldA rfl rfl ?_
                  refine ur_get rfl ((d131 _ (by decide)).trans hc112) rfl ?_
                  refine ur_ldI rfl rfl ?_
                  obtain ⟨xs139, hc138, hn140, he141⟩ := hO133.int (hO133.fix 48 (by decide) rfl)
                  refine ur_aldV rfl hc138 hn140 (by omega) (fun x142 hx143 => ?_)
                  have t144 := gI_of (j := x78) hc138 hx143
                  have tt145 := (px87.e (gI_f (d131 48 (by decide)))).r (i := x78.toInt) (by omega) (by omega)
                  refine ur_ldI rfl rfl ?_
                  refine ur_if1t rfl (by decide) ?_
                  refine ur_push rfl ?_
                  refine ur_binV rfl (fun x146 e147 => ?_)
                  have z148 := any_r x142
                  have t149 := ti_add e147 (by omega) (by omega)
                  refine ur_astV (W := [48]) (m := 242) rfl hO133 hc138 (by decide) hn140 (by omega) (any_r _) (Or.inr (Or.inr (wid_fix (by decide) (by decide)))) (fun h152 hO152 hv152 d150 hc151 => ?_)
                  have hu152 : un [47, 48, 222, 223, 21212] h133 h152 := hv152.mono (by decide)
                  have w153 : wI h133 h152 48 ((arI h133 48).set (x135 : Int32).toInt.toNat x146) := ⟨by rw [arI_of hc151, arI_of hc138], d150⟩
                  refine ur_incV (fun z => [some (.inr (.inr (some 41))), some (.inr (.inr (some a1))), some (.inr (.inr (some a2))), some (.inl a3), some (.inl x44), some (.inl x65), some (.inl x71), some (.inl z), some (.inl x103), some (.inl 0), some (.inl 0)]) rfl rfl (fun _ => rfl) (fun x154 e155 => ?_)
                  have t156 := ti_add e155 (by omega) (by omega)
                  refine ur_go rfl ?_
                  have z157 := any_r x154
                  exact ih84 x154 _ _ _ _ hO152 (hu85.tr (hu133.tr hu152)) (by omega) ((px86.e rfl).s (j := x116.toInt) (x := x127.toInt) (sq_e (sq_w (am_l (a := 47) hO85 (by decide) rfl (by decide)) w134 (by omega)) (gI_f (d150 47 (by decide)))) (by omega) (Or.inr ⟨(PAd.f (d := x103.toInt) (by omega) (by omega)), by omega⟩) (by omega) (by omega)) ((px87.e (gI_f (d131 48 (by decide)))).s (j := x135.toInt) (x := x146.toInt) (sq_e (sq_w (am_l (a := 48) hO133 (by decide) rfl (by decide)) w153 (by omega)) rfl) (by omega) (Or.inr ⟨(PBd.f (d := x103.toInt) (by omega) (by omega)), by omega⟩) (by omega) (by omega)) ((px88.uk hO85 hO133 hv133 (by decide)).uk hO133 hO152 hv152 (by decide)) (by omega)
                · have t158 := wi_to c110
                  refine ur_ldA rfl rfl ?_
                  obtain ⟨f160, f161, hc159, k162⟩ := ok_41 hO85
                  refine ur_get rfl hc159 rfl ?_
                  refine ur_ldA rfl rfl ?_
                  refine ur_ldA rfl rfl ?_
                  refine ur_get rfl (hu85.ko (n := 13) hc3 rfl (wid_w g19) (by decide)) rfl ?_
                  refine ur_ldI rfl rfl ?_
                  refine ur_push rfl ?_
                  refine ur_ldI rfl rfl ?_
                  obtain ⟨f164, hc163, k165⟩ := ok_8 hO85
                  refine ur_inl rfl (rcv_of hc163) (Nat.le_of_ble_eq_true rfl) (Nat.le_of_ble_eq_true rfl) (sd_X5_seenOn hO85 g41 (hu85.tm t2 (by decide)) _ (by show 0 ≤ f6.toInt ∧ f6.toInt ≤ 8; omega) _ (by show -60 ≤ a3.toInt ∧ a3.toInt ≤ 60; omega) _ (by show -1000000 ≤ (0 : Int32).toInt ∧ (0 : Int32).toInt ≤ 1000000; omega) _ (by show 0 ≤ x103.toInt ∧ x103.toInt ≤ 999999; omega) (pre0.un hO0 hO85 hu85 (by decide)) px88 (cz_un hO0 hO85 hu85 pre2 (by decide) (by decide)) ((txC_un hO0 hO85 hu85 (by decide) 9 (by decide)).trans pre3) pre4 (by rw [fO_eA (fC_un hO0 hu85 g2 t2 (k := 8) (by decide) (by decide)), fO_eA (fC_un hO0 hu85 g2 t2 (k := 9) (by decide) (by decide))]; exact pre7) (fun w166 h169 hr167 hO169 hv169 hp168 => ?_))
                  have hu169 : un [47, 48, 222, 223, 21212] h85 h169 := hv169.mono (by decide)
                  obtain ⟨b170, rfl, t171, t172⟩ := hr167
                  show uRun _ (uCall Mt _) _ 146 (_, [(.inl (bi b170))], _, _, _)
                  refine ur_eqB rfl (fun c173 => ?_) (fun c173 => ?_)
                  · have t174 := t172 c173
                    clear t171 t172
                    have C175 := t174
                    rw [fO_eA (fC_un hO0 hu85 g2 t2 (k := 2) (by decide) (by decide)), fO_eA (fC_un hO0 hu85 g2 t2 (k := 3) (by decide) (by decide)), fO_eA (fC_un hO0 hu85 g2 t2 (k := 4) (by decide) (by decide)), fO_eA (fC_un hO0 hu85 g2 t2 (k := 5) (by decide) (by decide)), cf_un hO0 hu85 g2 t2 (by decide), l_0, Int.add_zero, show f6.toInt = fO h0 a1 2 by omega] at C175
                    refine ur_push rfl ?_
                    refine ur_svIk [some (.inr (.inr (some 41))), some (.inr (.inr (some a1))), some (.inr (.inr (some a2))), some (.inl a3), some (.inl x44), some (.inl x65), some (.inl x71), some (.inl x78), some (.inl x103), some (.inl 0), u81] rfl rfl ?_
                    refine ur_ldI rfl rfl ?_
                    refine ur_if1t rfl (by decide) ?_
                    refine ur_push rfl ?_
                    refine ur_svIk [some (.inr (.inr (some 41))), some (.inr (.inr (some a1))), some (.inr (.inr (some a2))), some (.inl a3), some (.inl x44), some (.inl x65), some (.inl x71), some (.inl x78), some (.inl x103), some (.inl 0), some (.inl 0)] rfl rfl ?_
                    refine ur_ldA rfl rfl ?_
                    refine ur_get rfl (hv169.ko (n := 15) hc159 rfl (wid_f (by decide)) (by decide)) rfl ?_
                    refine ur_ldI rfl rfl ?_
                    refine ur_push rfl ?_
                    refine ur_binV rfl (fun x176 e177 => ?_)
                    have t178 := ti_add e177 (by omega) (by omega)
                    refine ur_ldA rfl rfl ?_
                    refine ur_get rfl (hv169.ko (n := 15) hc159 rfl (wid_f (by decide)) (by decide)) rfl ?_
                    refine ur_ldI rfl rfl ?_
                    obtain ⟨xs180, hc179, hn181, he182⟩ := hO169.int (hO169.fix 47 (by decide) rfl)
                    refine ur_aldV rfl hc179 hn181 (by omega) (fun x183 hx184 => ?_)
                    have t185 := gI_of (j := x78) hc179 hx184
                    have tt186 := (px86.e (gI_fk (a := 47) (kd := 0) (n := 242) hO85 hv169 (by decide) rfl (by decide) rfl (by decide) (by decide))).r (i := x78.toInt) (by omega) (by omega)
                    refine ur_ldI rfl rfl ?_
                    refine ur_if1t rfl (by decide) ?_
                    refine ur_push rfl ?_
                    refine ur_binV rfl (fun x187 e188 => ?_)
                    have z189 := any_r x183
                    have t190 := ti_add e188 (by omega) (by omega)
                    refine ur_astV (W := [47]) (m := 242) rfl hO169 hc179 (by decide) hn181 (by omega) (any_r _) (Or.inr (Or.inr (wid_fix (by decide) (by decide)))) (fun h193 hO193 hv193 d191 hc192 => ?_)
                    have hu193 : un [47, 48, 222, 223, 21212] h169 h193 := hv193.mono (by decide)
                    have w194 : wI h169 h193 47 ((arI h169 47).set (x176 : Int32).toInt.toNat x187) := ⟨by rw [arI_of hc192, arI_of hc179], d191⟩
                    refine ur_ldA rfl rfl ?_
                    refine ur_get rfl ((d191 _ (by decide)).trans (hv169.ko (n := 15) hc159 rfl (wid_f (by decide)) (by decide))) rfl ?_
                    refine ur_ldI rfl rfl ?_
                    refine ur_push rfl ?_
                    refine ur_binV rfl (fun x195 e196 => ?_)
                    have t197 := ti_add e196 (by omega) (by omega)
                    refine ur_ldA rfl rfl ?_
                    refine ur_get rfl ((d191 _ (by decide)).trans (hv169.ko (n := 15) hc159 rfl (wid_f (by decide)) (by decide))) rfl ?_
                    refine ur_ldI rfl rfl ?_
                    obtain ⟨xs199, hc198, hn200, he201⟩ := hO193.int (hO193.fix 48 (by decide) rfl)
                    refine ur_aldV rfl hc198 hn200 (by omega) (fun x202 hx203 => ?_)
                    have t204 := gI_of (j := x78) hc198 hx203
                    have tt205 := (px87.e ((gI_f (d191 48 (by decide))).trans (gI_fk (a := 48) (kd := 0) (n := 242) hO85 hv169 (by decide) rfl (by decide) rfl (by decide) (by decide)))).r (i := x78.toInt) (by omega) (by omega)
                    refine ur_ldI rfl rfl ?_
                    refine ur_if1t rfl (by decide) ?_
                    refine ur_push rfl ?_
                    refine ur_binV rfl (fun x206 e207 => ?_)
                    have z208 := any_r x202
                    have t209 := ti_add e207 (by omega) (by omega)
                    refine ur_astV (W := [48]) (m := 242) rfl hO193 hc198 (by decide) hn200 (by omega) (any_r _) (Or.inr (Or.inr (wid_fix (by decide) (by decide)))) (fun h212 hO212 hv212 d210 hc211 => ?_)
                    have hu212 : un [47, 48, 222, 223, 21212] h193 h212 := hv212.mono (by decide)
                    have w213 : wI h193 h212 48 ((arI h193 48).set (x195 : Int32).toInt.toNat x206) := ⟨by rw [arI_of hc211, arI_of hc198], d210⟩
                    refine ur_incV (fun z => [some (.inr (.inr (some 41))), some (.inr (.inr (some a1))), some (.inr (.inr (some a2))), some (.inl a3), some (.inl x44), some (.inl x65), some (.inl x71), some (.inl z), some (.inl x103), some (.inl 0), some (.inl 0)]) rfl rfl (fun _ => rfl) (fun x214 e215 => ?_)
                    have t216 := ti_add e215 (by omega) (by omega)
                    refine ur_go rfl ?_
                    have z217 := any_r x214
                    exact ih84 x214 _ _ _ _ hO212 (hu85.tr (hu169.tr (hu193.tr hu212))) (by omega) ((px86.e (gI_fk (a := 47) (kd := 0) (n := 242) hO85 hv169 (by decide) rfl (by decide) rfl (by decide) (by decide))).s (j := x176.toInt) (x := x187.toInt) (sq_e (sq_w (am_l (a := 47) hO169 (by decide) rfl (by decide)) w194 (by omega)) (gI_f (d210 47 (by decide)))) (by omega) (Or.inr ⟨(PAd.c (d := x103.toInt) (by omega) C175), by omega⟩) (by omega) (by omega)) ((px87.e ((gI_f (d191 48 (by decide))).trans (gI_fk (a := 48) (kd := 0) (n := 242) hO85 hv169 (by decide) rfl (by decide) rfl (by decide) (by decide)))).s (j := x195.toInt) (x := x206.toInt) (sq_e (sq_w (am_l (a := 48) hO193 (by decide) rfl (by decide)) w213 (by omega)) rfl) (by omega) (Or.inr ⟨(PBd.c (d := x103.toInt) (by omega) C175), by omega⟩) (by omega) (by omega)) ((hp168.uk hO169 hO193 hv193 (by decide)).uk hO193 hO212 hv212 (by decide)) (by omega)
                  · have t218 := t171 c173
                    clear t171 t172
                    have C219 := t218
                    rw [fO_eA (fC_un hO0 hu85 g2 t2 (k := 2) (by decide) (by decide)), fO_eA (fC_un hO0 hu85 g2 t2 (k := 3) (by decide) (by decide)), fO_eA (fC_un hO0 hu85 g2 t2 (k := 4) (by decide) (by decide)), fO_eA (fC_un hO0 hu85 g2 t2 (k := 5) (by decide) (by decide)), cf_un hO0 hu85 g2 t2 (by decide), l_0, Int.add_zero, show f6.toInt = fO h0 a1 2 by omega] at C219
                    have tt220 := C219.1
                    refine ur_push rfl ?_
                    refine ur_go rfl ?_
                    refine ur_svIk [some (.inr (.inr (some 41))), some (.inr (.inr (some a1))), some (.inr (.inr (some a2))), some (.inl a3), some (.inl x44), some (.inl x65), some (.inl x71), some (.inl x78), some (.inl x103), some (.inl 1), u81] rfl rfl ?_
                    refine ur_ldI rfl rfl ?_
                    refine ur_if1f rfl (by decide) ?_
                    refine ur_ldA rfl rfl ?_
                    refine ur_get rfl (hv169.ko (n := 15) hc159 rfl (wid_f (by decide)) (by decide)) rfl ?_
                    refine ur_ldA rfl rfl ?_
                    refine ur_ldA rfl rfl ?_
                    refine ur_ldI rfl rfl ?_
                    refine ur_ldI rfl rfl ?_
                    refine ur_binV rfl (fun x221 e222 => ?_)
                    have z223 := any_r x103
                    have t224 := ti_sub e222 (by omega) (by omega)
                    refine ur_ldI rfl rfl ?_
                    refine ur_inl rfl (rcv_of (hv169.ko (n := 5) hc163 rfl (wid_f (by decide)) (by decide))) (Nat.le_of_ble_eq_true rfl) (Nat.le_of_ble_eq_true rfl) (sd_X5_isAsSaid hO169 g19 (hu169.tm (hu85.tm t1 (by decide)) (by decide)) g41 (hu169.tm (hu85.tm t2 (by decide)) (by decide)) _ (by show -120 ≤ x221.toInt ∧ x221.toInt ≤ 120; omega) _ (by show 0 ≤ x103.toInt ∧ x103.toInt ≤ 999999; omega) (cd1.un hO0 (hu85.tr hu169) g2 t2 (by decide) (by decide)) ((txC_un hO0 hO169 (hu85.tr hu169) (by decide) 11 (by decide)).trans pre5) pre6 (by rw [fO_wu hO0 (hu85.tr hu169) ⟨g1, t1⟩ (k := 1) (by decide) (by decide), fO_wu hO0 (hu85.tr hu169) ⟨g1, t1⟩ (k := 8) (by decide) (by decide)]; exact pre8) (fun w225 h227 hr226 hO227 hv227 => ?_))
                    have hu227 : un [47, 48, 222, 223, 21212] h169 h227 := hv227.mono (by decide)
                    obtain ⟨b228, rfl, t229, t230⟩ := hr226
                    show uRun _ (uCall Mt _) _ 177 (_, [(.inl (bi b228))], _, _, _)
                    refine ur_eqB rfl (fun c231 => ?_) (fun c231 => ?_)
                    · have t232 := t230 c231
                      clear t229 t230
                      have A233 := t232
                      rw [fO_wu hO0 (hu85.tr hu169) ⟨g1, t1⟩ (k := 1) (by decide) (by decide), fO_wu hO0 (hu85.tr hu169) ⟨g1, t1⟩ (k := 8) (by decide) (by decide), fO_wu hO0 (hu85.tr hu169) ⟨g1, t1⟩ (k := 2) (by decide) (by decide), fO_eA (fC_un hO0 (hu85.tr hu169) g2 t2 (k := 2) (by decide) (by decide)), fO_eA (fC_un hO0 (hu85.tr hu169) g2 t2 (k := 3) (by decide) (by decide)), fO_eA (fC_un hO0 (hu85.tr hu169) g2 t2 (k := 4) (by decide) (by decide)), fO_eA (fC_un hO0 (hu85.tr hu169) g2 t2 (k := 5) (by decide) (by decide)), show x221.toInt = x103.toInt - (cf h0 a2 a3.toInt) by omega] at A233
                      refine ur_push rfl ?_
                      refine ur_svIk [some (.inr (.inr (some 41))), some (.inr (.inr (some a1))), some (.inr (.inr (some a2))), some (.inl a3), some (.inl x44), some (.inl x65), some (.inl x71), some (.inl x78), some (.inl x103), some (.inl 1), some (.inl 0)] rfl rfl ?_
                      refine ur_ldA rfl rfl ?_
                      refine ur_get rfl (hv227.ko (n := 15) (hv169.ko (n := 15) hc159 rfl (wid_f (by decide)) (by decide)) rfl (wid_f (by decide)) (by decide)) rfl ?_
                      refine ur_ldI rfl rfl ?_
                      refine ur_push rfl ?_
                      refine ur_binV rfl (fun x234 e235 => ?_)
                      have t236 := ti_add e235 (by omega) (by omega)
                      refine ur_ldA rfl rfl ?_
                      refine ur_get rfl (hv227.ko (n := 15) (hv169.ko (n := 15) hc159 rfl (wid_f (by decide)) (by decide)) rfl (wid_f (by decide)) (by decide)) rfl ?_
                      refine ur_ldI rfl rfl ?_
                      obtain ⟨xs238, hc237, hn239, he240⟩ := hO227.int (hO227.fix 47 (by decide) rfl)
                      refine ur_aldV rfl hc237 hn239 (by omega) (fun x241 hx242 => ?_)
                      have t243 := gI_of (j := x78) hc237 hx242
                      have tt244 := (px86.e ((gI_fk (a := 47) (kd := 0) (n := 242) hO169 hv227 (by decide) rfl (by decide) rfl (by decide) (by decide)).trans (gI_fk (a := 47) (kd := 0) (n := 242) hO85 hv169 (by decide) rfl (by decide) rfl (by decide) (by decide)))).r (i := x78.toInt) (by omega) (by omega)
                      refine ur_ldI rfl rfl ?_
                      refine ur_if1t rfl (by decide) ?_
                      refine ur_push rfl ?_
                      refine ur_binV rfl (fun x245 e246 => ?_)
                      have z247 := any_r x241
                      have t248 := ti_add e246 (by omega) (by omega)
                      refine ur_astV (W := [47]) (m := 242) rfl hO227 hc237 (by decide) hn239 (by omega) (any_r _) (Or.inr (Or.inr (wid_fix (by decide) (by decide)))) (fun h251 hO251 hv251 d249 hc250 => ?_)
                      have hu251 : un [47, 48, 222, 223, 21212] h227 h251 := hv251.mono (by decide)
                      have w252 : wI h227 h251 47 ((arI h227 47).set (x234 : Int32).toInt.toNat x245) := ⟨by rw [arI_of hc250, arI_of hc237], d249⟩
                      refine ur_ldA rfl rfl ?_
                      refine ur_get rfl ((d249 _ (by decide)).trans (hv227.ko (n := 15) (hv169.ko (n := 15) hc159 rfl (wid_f (by decide)) (by decide)) rfl (wid_f (by decide)) (by decide))) rfl ?_
                      refine ur_ldI rfl rfl ?_
                      refine ur_push rfl ?_
                      refine ur_binV rfl (fun x253 e254 => ?_)
                      have t255 := ti_add e254 (by omega) (by omega)
                      refine ur_ldA rfl rfl ?_
                      refine ur_get rfl ((d249 _ (by decide)).trans (hv227.ko (n := 15) (hv169.ko (n := 15) hc159 rfl (wid_f (by decide)) (by decide)) rfl (wid_f (by decide)) (by decide))) rfl ?_
                      refine ur_ldI rfl rfl ?_
                      obtain ⟨xs257, hc256, hn258, he259⟩ := hO251.int (hO251.fix 48 (by decide) rfl)
                      refine ur_aldV rfl hc256 hn258 (by omega) (fun x260 hx261 => ?_)
                      have t262 := gI_of (j := x78) hc256 hx261
                      have tt263 := (px87.e ((gI_f (d249 48 (by decide))).trans ((gI_fk (a := 48) (kd := 0) (n := 242) hO169 hv227 (by decide) rfl (by decide) rfl (by decide) (by decide)).trans (gI_fk (a := 48) (kd := 0) (n := 242) hO85 hv169 (by decide) rfl (by decide) rfl (by decide) (by decide))))).r (i := x78.toInt) (by omega) (by omega)
                      refine ur_ldI rfl rfl ?_
                      refine ur_if1f rfl (by decide) ?_
                      refine ur_ldI rfl rfl ?_
                      refine ur_if1f rfl (by decide) ?_
                      refine ur_push rfl ?_
                      refine ur_go rfl ?_
                      refine ur_binV rfl (fun x264 e265 => ?_)
                      have z266 := any_r x260
                      have t267 := ti_add e265 (by omega) (by omega)
                      refine ur_astV (W := [48]) (m := 242) rfl hO251 hc256 (by decide) hn258 (by omega) (any_r _) (Or.inr (Or.inr (wid_fix (by decide) (by decide)))) (fun h270 hO270 hv270 d268 hc269 => ?_)
                      have hu270 : un [47, 48, 222, 223, 21212] h251 h270 := hv270.mono (by decide)
                      have w271 : wI h251 h270 48 ((arI h251 48).set (x253 : Int32).toInt.toNat x264) := ⟨by rw [arI_of hc269, arI_of hc256], d268⟩
                      refine ur_incV (fun z => [some (.inr (.inr (some 41))), some (.inr (.inr (some a1))), some (.inr (.inr (some a2))), some (.inl a3), some (.inl x44), some (.inl x65), some (.inl x71), some (.inl z), some (.inl x103), some (.inl 1), some (.inl 0)]) rfl rfl (fun _ => rfl) (fun x272 e273 => ?_)
                      have t274 := ti_add e273 (by omega) (by omega)
                      refine ur_go rfl ?_
                      have z275 := any_r x272
                      exact ih84 x272 _ _ _ _ hO270 (hu85.tr (hu169.tr (hu227.tr (hu251.tr hu270)))) (by omega) ((px86.e ((gI_fk (a := 47) (kd := 0) (n := 242) hO169 hv227 (by decide) rfl (by decide) rfl (by decide) (by decide)).trans (gI_fk (a := 47) (kd := 0) (n := 242) hO85 hv169 (by decide) rfl (by decide) rfl (by decide) (by decide)))).s (j := x234.toInt) (x := x245.toInt) (sq_e (sq_w (am_l (a := 47) hO227 (by decide) rfl (by decide)) w252 (by omega)) (gI_f (d268 47 (by decide)))) (by omega) (Or.inr ⟨(PAd.a (d := x103.toInt) (by omega) A233), by omega⟩) (by omega) (by omega)) ((px87.e ((gI_f (d249 48 (by decide))).trans ((gI_fk (a := 48) (kd := 0) (n := 242) hO169 hv227 (by decide) rfl (by decide) rfl (by decide) (by decide)).trans (gI_fk (a := 48) (kd := 0) (n := 242) hO85 hv169 (by decide) rfl (by decide) rfl (by decide) (by decide))))).s (j := x253.toInt) (x := x264.toInt) (sq_e (sq_w (am_l (a := 48) hO251 (by decide) rfl (by decide)) w271 (by omega)) rfl) (by omega) (Or.inl ⟨PBd.y (d := x103.toInt) (by omega) ⟨by omega, by omega⟩ C219 A233, by omega⟩) (by omega) (by omega)) (((hp168.uk hO169 hO227 hv227 (by decide)).uk hO227 hO251 hv251 (by decide)).uk hO251 hO270 hv270 (by decide)) (by omega)
                    · have t276 := t229 c231
                      clear t229 t230
                      have A277 := t276
                      rw [fO_wu hO0 (hu85.tr hu169) ⟨g1, t1⟩ (k := 1) (by decide) (by decide), fO_wu hO0 (hu85.tr hu169) ⟨g1, t1⟩ (k := 8) (by decide) (by decide), fO_wu hO0 (hu85.tr hu169) ⟨g1, t1⟩ (k := 2) (by decide) (by decide), fO_eA (fC_un hO0 (hu85.tr hu169) g2 t2 (k := 2) (by decide) (by decide)), fO_eA (fC_un hO0 (hu85.tr hu169) g2 t2 (k := 3) (by decide) (by decide)), fO_eA (fC_un hO0 (hu85.tr hu169) g2 t2 (k := 4) (by decide) (by decide)), fO_eA (fC_un hO0 (hu85.tr hu169) g2 t2 (k := 5) (by decide) (by decide)), show x221.toInt = x103.toInt - (cf h0 a2 a3.toInt) by omega] at A277
                      refine ur_push rfl ?_
                      refine ur_go rfl ?_
                      refine ur_svIk [some (.inr (.inr (some 41))), some (.inr (.inr (some a1))), some (.inr (.inr (some a2))), some (.inl a3), some (.inl x44), some (.inl x65), some (.inl x71), some (.inl x78), some (.inl x103), some (.inl 1), some (.inl 1)] rfl rfl ?_
                      refine ur_ldA rfl rfl ?_
                      refine ur_get rfl (hv227.ko (n := 15) (hv169.ko (n := 15) hc159 rfl (wid_f (by decide)) (by decide)) rfl (wid_f (by decide)) (by decide)) rfl ?_
                      refine ur_ldI rfl rfl ?_
                      refine ur_push rfl ?_
                      refine ur_binV rfl (fun x278 e279 => ?_)
                      have t280 := ti_add e279 (by omega) (by omega)
                      refine ur_ldA rfl rfl ?_
                      refine ur_get rfl (hv227.ko (n := 15) (hv169.ko (n := 15) hc159 rfl (wid_f (by decide)) (by decide)) rfl (wid_f (by decide)) (by decide)) rfl ?_
                      refine ur_ldI rfl rfl ?_
                      obtain ⟨xs282, hc281, hn283, he284⟩ := hO227.int (hO227.fix 47 (by decide) rfl)
                      refine ur_aldV rfl hc281 hn283 (by omega) (fun x285 hx286 => ?_)
                      have t287 := gI_of (j := x78) hc281 hx286
                      have tt288 := (px86.e ((gI_fk (a := 47) (kd := 0) (n := 242) hO169 hv227 (by decide) rfl (by decide) rfl (by decide) (by decide)).trans (gI_fk (a := 47) (kd := 0) (n := 242) hO85 hv169 (by decide) rfl (by decide) rfl (by decide) (by decide)))).r (i := x78.toInt) (by omega) (by omega)
                      refine ur_ldI rfl rfl ?_
                      refine ur_if1f rfl (by decide) ?_
                      refine ur_push rfl ?_
                      refine ur_go rfl ?_
                      refine ur_binV rfl (fun x289 e290 => ?_)
                      have z291 := any_r x285
                      have t292 := ti_add e290 (by omega) (by omega)
                      refine ur_astV (W := [47]) (m := 242) rfl hO227 hc281 (by decide) hn283 (by omega) (any_r _) (Or.inr (Or.inr (wid_fix (by decide) (by decide)))) (fun h295 hO295 hv295 d293 hc294 => ?_)
                      have hu295 : un [47, 48, 222, 223, 21212] h227 h295 := hv295.mono (by decide)
                      have w296 : wI h227 h295 47 ((arI h227 47).set (x278 : Int32).toInt.toNat x289) := ⟨by rw [arI_of hc294, arI_of hc281], d293⟩
                      refine ur_ldA rfl rfl ?_
                      refine ur_get rfl ((d293 _ (by decide)).trans (hv227.ko (n := 15) (hv169.ko (n := 15) hc159 rfl (wid_f (by decide)) (by decide)) rfl (wid_f (by decide)) (by decide))) rfl ?_
                      refine ur_ldI rfl rfl ?_
                      refine ur_push rfl ?_
                      refine ur_binV rfl (fun x297 e298 => ?_)
                      have t299 := ti_add e298 (by omega) (by omega)
                      refine ur_ldA rfl rfl ?_
                      refine ur_get rfl ((d293 _ (by decide)).trans (hv227.ko (n := 15) (hv169.ko (n := 15) hc159 rfl (wid_f (by decide)) (by decide)) rfl (wid_f (by decide)) (by decide))) rfl ?_
                      refine ur_ldI rfl rfl ?_
                      obtain ⟨xs301, hc300, hn302, he303⟩ := hO295.int (hO295.fix 48 (by decide) rfl)
                      refine ur_aldV rfl hc300 hn302 (by omega) (fun x304 hx305 => ?_)
                      have t306 := gI_of (j := x78) hc300 hx305
                      have tt307 := (px87.e ((gI_f (d293 48 (by decide))).trans ((gI_fk (a := 48) (kd := 0) (n := 242) hO169 hv227 (by decide) rfl (by decide) rfl (by decide) (by decide)).trans (gI_fk (a := 48) (kd := 0) (n := 242) hO85 hv169 (by decide) rfl (by decide) rfl (by decide) (by decide))))).r (i := x78.toInt) (by omega) (by omega)
                      refine ur_ldI rfl rfl ?_
                      refine ur_if1f rfl (by decide) ?_
                      refine ur_ldI rfl rfl ?_
                      refine ur_if1t rfl (by decide) ?_
                      refine ur_push rfl ?_
                      refine ur_binV rfl (fun x308 e309 => ?_)
                      have z310 := any_r x304
                      have t311 := ti_add e309 (by omega) (by omega)
                      refine ur_astV (W := [48]) (m := 242) rfl hO295 hc300 (by decide) hn302 (by omega) (any_r _) (Or.inr (Or.inr (wid_fix (by decide) (by decide)))) (fun h314 hO314 hv314 d312 hc313 => ?_)
                      have hu314 : un [47, 48, 222, 223, 21212] h295 h314 := hv314.mono (by decide)
                      have w315 : wI h295 h314 48 ((arI h295 48).set (x297 : Int32).toInt.toNat x308) := ⟨by rw [arI_of hc313, arI_of hc300], d312⟩
                      refine ur_incV (fun z => [some (.inr (.inr (some 41))), some (.inr (.inr (some a1))), some (.inr (.inr (some a2))), some (.inl a3), some (.inl x44), some (.inl x65), some (.inl x71), some (.inl z), some (.inl x103), some (.inl 1), some (.inl 1)]) rfl rfl (fun _ => rfl) (fun x316 e317 => ?_)
                      have t318 := ti_add e317 (by omega) (by omega)
                      refine ur_go rfl ?_
                      have z319 := any_r x316
                      exact ih84 x316 _ _ _ _ hO314 (hu85.tr (hu169.tr (hu227.tr (hu295.tr hu314)))) (by omega) ((px86.e ((gI_fk (a := 47) (kd := 0) (n := 242) hO169 hv227 (by decide) rfl (by decide) rfl (by decide) (by decide)).trans (gI_fk (a := 47) (kd := 0) (n := 242) hO85 hv169 (by decide) rfl (by decide) rfl (by decide) (by decide)))).s (j := x278.toInt) (x := x289.toInt) (sq_e (sq_w (am_l (a := 47) hO227 (by decide) rfl (by decide)) w296 (by omega)) (gI_f (d312 47 (by decide)))) (by omega) (Or.inl ⟨PAd.y (d := x103.toInt) (by omega) ⟨by omega, by omega⟩ C219 A277, by omega⟩) (by omega) (by omega)) ((px87.e ((gI_f (d293 48 (by decide))).trans ((gI_fk (a := 48) (kd := 0) (n := 242) hO169 hv227 (by decide) rfl (by decide) rfl (by decide) (by decide)).trans (gI_fk (a := 48) (kd := 0) (n := 242) hO85 hv169 (by decide) rfl (by decide) rfl (by decide) (by decide))))).s (j := x297.toInt) (x := x308.toInt) (sq_e (sq_w (am_l (a := 48) hO295 (by decide) rfl (by decide)) w315 (by omega)) rfl) (by omega) (Or.inr ⟨(PBd.a (d := x103.toInt) (by omega) A277), by omega⟩) (by omega) (by omega)) (((hp168.uk hO169 hO227 hv227 (by decide)).uk hO227 hO295 hv295 (by decide)).uk hO295 hO314 hv314 (by decide)) (by omega)
          exact L82 _ 0 (none) (none) (none) _ hO0 un.rf (by omega) (CTa.z pre10.1 (by omega)) (CTa.z pre10.2 (by omega)) pre1 (Nat.lt_succ_self _)
        · have t320 := le_no c76
          refine ur_push rfl ?_
          exact ur_ret rfl rfl (hQ _ _ ⟨false, rfl, fun e => absurd e (by decide), fun _ => (CDN.of (F' := x65.toInt) (T' := x71.toInt) px54 (by omega) (by omega) (by omega) (by omega))⟩ hO0 un.rf pre1 pre10)
      · have t321 := le_no c59
        refine ur_ldI rfl rfl ?_
        refine ur_ldA rfl rfl ?_
        refine ur_ldI rfl rfl ?_
        refine ur_push rfl ?_
        refine ur_inl rfl (rcv_of hc3) (Nat.le_of_ble_eq_true rfl) (Nat.le_of_ble_eq_true rfl) (sy_X10_movedFrom hO0 g19 t1 _ _ (by show -400 ≤ ((-400) : Int32).toInt ∧ ((-400) : Int32).toInt ≤ 400; omega) (mq_m pre9 (i := x50.toInt) (by omega) (by omega)) (fun w322 hr323 => ?_))
        obtain ⟨x324, rfl, f325⟩ := hr323
        show uRun _ (uCall Mt _) _ 37 (_, [(.inl x324), (.inl x48)], _, _, _)
        have e326 := mv_F f325
        clear f325
        rw [l_m400] at e326
        have tt327 := ((spm_b (mv := (-400)) (VC_b pre9 (i := x50.toInt) (by omega) (by omega)) (by omega)).1)
        refine ur_minV rfl (by show ¬ 9 ≤ 2; decide) (fun x328 t329 e330 => ?_)
        refine ur_svIk [some (.inr (.inr (some 41))), some (.inr (.inr (some a1))), some (.inr (.inr (some a2))), some (.inl a3), some (.inl x44), some (.inl x328), some (.inl x49), some (.inl x50), none, none, none] rfl rfl ?_
        refine ur_ldI rfl rfl ?_
        refine ur_ldA rfl rfl ?_
        refine ur_ldI rfl rfl ?_
        refine ur_push rfl ?_
        refine ur_inl rfl (rcv_of hc3) (Nat.le_of_ble_eq_true rfl) (Nat.le_of_ble_eq_true rfl) (sy_X10_movedTo hO0 g19 t1 _ _ (by show -400 ≤ (400 : Int32).toInt ∧ (400 : Int32).toInt ≤ 400; omega) (mq_m pre9 (i := x50.toInt) (by omega) (by omega)) (fun w331 hr332 => ?_))
        obtain ⟨x333, rfl, f334⟩ := hr332
        show uRun _ (uCall Mt _) _ 53 (_, [(.inl x333), (.inl x49)], _, _, _)
        have e335 := mv_T f334
        clear f334
        rw [l_400] at e335
        have tt336 := ((spm_b (mv := 400) (VC_b pre9 (i := x50.toInt) (by omega) (by omega)) (by omega)).2)
        refine ur_maxV rfl (by show ¬ 9 ≤ 2; decide) (fun x337 t338 e339 => ?_)
        refine ur_svIk [some (.inr (.inr (some 41))), some (.inr (.inr (some a1))), some (.inr (.inr (some a2))), some (.inl a3), some (.inl x44), some (.inl x328), some (.inl x337), some (.inl x50), none, none, none] rfl rfl ?_
        refine ur_incV (fun z => [some (.inr (.inr (some 41))), some (.inr (.inr (some a1))), some (.inr (.inr (some a2))), some (.inl a3), some (.inl x44), some (.inl x328), some (.inl x337), some (.inl z), none, none, none]) rfl rfl (fun _ => rfl) (fun x340 e341 => ?_)
        have t342 := ti_add e341 (by omega) (by omega)
        refine ur_go rfl ?_
        have z343 := any_r x328
        have z344 := any_r x337
        have z345 := any_r x340
        exact ih53 x328 x337 x340 (by omega) (px54.s (by have q := e326; omega) (by have q := e335; omega) (by omega)) (by omega)
  exact L51 _ 999999 0 0 (by omega) (CDL.z (by omega)) (Nat.lt_succ_self _)

set_option maxRecDepth 20000 in
set_option maxHeartbeats 4000000 in
theorem sd_X7_countMovesOf {d kc ks : Nat} {h0 : aH} {Q : Option aV → aH → Prop} {ls : List (List (Int × Int) × List (Int × Int))} {l1 : List (List (Int × Int) × List (Int × Int))} {c0 : Int} (hO0 : OK h0) {a1 : Nat} (g1 : 114 ≤ a1) (t1 : tg h0 a1 = (110, 13)) {a2 : Nat} (g2 : 114 ≤ a2) (t2 : tg h0 a2 = (102, 14)) (pre0 : SKc h0) (pre1 : SGc ls h0) (pre2 : (0 ≤ c0 ∧ c0 < fO h0 1 4) ∧ cz h0 c0 a2) (pre3 : txC h0 9 = cfl 0 ls) (pre4 : ∀ l ∈ ls, lnG l) (pre5 : txC h0 11 = cfl 0 l1) (pre6 : ∀ l ∈ l1, lnG l) (pre7 : (fO h0 a1 1 = 1 ∨ fO h0 a1 1 = 6) → 0 ≤ fO h0 a1 8 ∧ fO h0 a1 8 ≤ 23) (pre8 : MVq h0 a1) (pre9 : gI h0 47 0 = 0 ∧ gI h0 48 0 = 0) (pre10 : ∀ m : Int, 0 ≤ m → m ≤ 80 → 0 ≤ gI h0 50 m ∧ gI h0 50 m ≤ 149) (hQ : ∀ r h', (r = none) → OK h' → un [47, 48, 49, 50, 222, 223, 21212] h0 h' → (SGc ls h') → (∀ m : Int, 0 ≤ m → m ≤ 80 → (FXk ls l1 h0 a1 a2 (10 * m - 400) → gI h' 50 m = gI h0 50 m + 1) ∧ (¬ FXk ls l1 h0 a1 a2 (10 * m - 400) → gI h' 50 m = gI h0 50 m)) → (gI h' 47 0 = 0 ∧ gI h' 48 0 = 0) → Q r h') : uCall Mt (d + 7) 83 [(.inr (.inr (some 41))), (.inr (.inr (some a1))), (.inr (.inr (some a2)))] h0 kc ks Q := by
  have l_0 : ((0) : Int32).toInt = 0 := by decide
  have l_1 : ((1) : Int32).toInt = 1 := by decide
  have l_81 : ((81) : Int32).toInt = 81 := by decide
  refine uc_ink [some (.inr (.inr (some 41))), some (.inr (.inr (some a1))), some (.inr (.inr (some a2))), none, none] mt_83 (Nat.le_of_ble_eq_true rfl) rfl ?_
  obtain ⟨g21, f2, f3, f4, f5, f6, f7, f8, f9, f10, f11, q12, q13, o14, q15, hc1, k16, k17, k18, k19, k20⟩ := hO0.comet t2
  have t22 := fO_of (k := 8) hc1 rfl
  have t23 := fO_of (k := 9) hc1 rfl
  refine ur_push rfl ?_
  refine ur_svIk [some (.inr (.inr (some 41))), some (.inr (.inr (some a1))), some (.inr (.inr (some a2))), some (.inl 0), none] rfl rfl ?_
  have L25 : ∀ (m26 : Nat) (x24 : Int32) (h28 : aH) , OK h28 → un [47, 48, 49, 50, 222, 223, 21212] h0 h28 → ((0 ≤ x24.toInt ∧ x24.toInt ≤ 81)) → (∀ m : Int, 0 ≤ m → m < x24.toInt → gI h28 49 m = 0) → (gI h28 50 = gI h0 50) → (gI h28 47 0 = 0 ∧ gI h28 48 0 = 0) → (SGc ls h28) → ((82 - x24.toInt).toNat) < m26 → uRun oX7_countMovesOf (uCall Mt (d + 6)) Q 2 ([some (.inr (.inr (some 41))), some (.inr (.inr (some a1))), some (.inr (.inr (some a2))), some (.inl x24), none], [], h28, kc, ks) := by
    intro m26
    induction m26 with
    | zero => intro x24 h28 hO28 hu28 iv33 px29 px30 px31 px32 mm34; omega
    | succ m26 ih27 =>
      intro x24 h28 hO28 hu28 iv33 px29 px30 px31 px32 mm34
      refine ur_ldI rfl rfl ?_
      refine ur_push rfl ?_
      refine ur_if2 rfl (fun c35 => ?_) (fun c35 => ?_)
      · have t36 := le_to c35
        refine ur_ldA rfl rfl ?_
        obtain ⟨g57, f38, f39, f40, f41, f42, f43, f44, f45, f46, f47, q48, q49, o50, q51, hc37, k52, k53, k54, k55, k56⟩ := hO28.comet (hu28.tm t2 (by decide))
        refine ur_get rfl hc37 rfl ?_
        have t58 := fO_of (k := 8) hc37 rfl
        have t59 := fO_of (k := 9) hc37 rfl
        refine ur_svIk [some (.inr (.inr (some 41))), some (.inr (.inr (some a1))), some (.inr (.inr (some a2))), some (.inl f46), none] rfl rfl ?_
        have L62 : ∀ (m63 : Nat) (x60 : Int32) (u61 : Option aV) (h65 : aH) , OK h65 → un [47, 48, 49, 50, 222, 223, 21212] h28 h65 → ((-60 ≤ x60.toInt ∧ x60.toInt ≤ 61) ∧ fO h0 a2 8 ≤ x60.toInt ∧ x60.toInt ≤ fO h0 a2 9 + 1) → (FKq (gI h65 49) (XKb (fO h0 a2 8) (fun j m => FXz ls l1 h0 a1 a2 (cf h0 a2 j) (10 * m - 400)) x60.toInt)) → (gI h65 50 = gI h0 50) → (gI h65 47 0 = 0 ∧ gI h65 48 0 = 0) → (SGc ls h65) → ((62 - x60.toInt).toNat) < m63 → uRun oX7_countMovesOf (uCall Mt (d + 6)) Q 26 ([some (.inr (.inr (some 41))), some (.inr (.inr (some a1))), some (.inr (.inr (some a2))), some (.inl x60), u61], [], h65, kc, ks) := by
          intro m63
          induction m63 with
          | zero => intro x60 u61 h65 hO65 hu65 iv70 px66 px67 px68 px69 mm71; omega
          | succ m63 ih64 =>
            intro x60 u61 h65 hO65 hu65 iv70 px66 px67 px68 px69 mm71
            obtain ⟨g92, f73, f74, f75, f76, f77, f78, f79, f80, f81, f82, q83, q84, o85, q86, hc72, k87, k88, k89, k90, k91⟩ := hO65.comet (hu65.tm (hu28.tm t2 (by decide)) (by decide))
            have t93 := fO_of (k := 8) hc72 rfl
            have tt94 : fO h65 a2 8 = fO h0 a2 8 := fO_eA (fC_un hO0 (hu28.tr hu65) g2 t2 (k := 8) (by decide) (by decide))
            have t95 := fO_of (k := 9) hc72 rfl
            have tt96 : fO h65 a2 9 = fO h0 a2 9 := fO_eA (fC_un hO0 (hu28.tr hu65) g2 t2 (k := 9) (by decide) (by decide))
            refine ur_ldI rfl rfl ?_
            refine ur_ldA rfl rfl ?_
            refine ur_get rfl hc72 rfl ?_
            have tt97 : fO h65 a2 8 = fO h0 a2 8 := fO_eA (fC_un hO0 (hu28.tr hu65) g2 t2 (k := 8) (by decide) (by decide))
            have tt98 : fO h65 a2 9 = fO h0 a2 9 := fO_eA (fC_un hO0 (hu28.tr hu65) g2 t2 (k := 9) (by decide) (by decide))
            have z99 := any_r x60
            have z100 := any_r f82
            refine ur_if2 rfl (fun c101 => ?_) (fun c101 => ?_)
            · have t102 := lt_to c101
              refine ur_push rfl ?_
              refine ur_svIk [some (.inr (.inr (some 41))), some (.inr (.inr (some a1))), some (.inr (.inr (some a2))), some (.inl 0), u61] rfl rfl ?_
              have L104 : ∀ (m105 : Nat) (x103 : Int32) (h107 : aH) , OK h107 → un [47, 48, 49, 50, 222, 223, 21212] h65 h107 → ((0 ≤ x103.toInt ∧ x103.toInt ≤ 81)) → (MCq (gI h0 50) (gI h107 50) (fun m => FXk ls l1 h0 a1 a2 (10 * m - 400)) x103.toInt) → (FKq (gI h107 49) (fun m => FXk ls l1 h0 a1 a2 (10 * m - 400))) → (gI h107 47 0 = 0 ∧ gI h107 48 0 = 0) → (SGc ls h107) → ((82 - x103.toInt).toNat) < m105 → uRun oX7_countMovesOf (uCall Mt (d + 6)) Q 107 ([some (.inr (.inr (some 41))), some (.inr (.inr (some a1))), some (.inr (.inr (some a2))), some (.inl x103), u61], [], h107, kc, ks) := by
                intro m105
                induction m105 with
                | zero => intro x103 h107 hO107 hu107 iv112 px108 px109 px110 px111 mm113; omega
                | succ m105 ih106 =>
                  intro x103 h107 hO107 hu107 iv112 px108 px109 px110 px111 mm113
                  refine ur_ldI rfl rfl ?_
                  refine ur_push rfl ?_
                  refine ur_if2 rfl (fun c114 => ?_) (fun c114 => ?_)
                  · have t115 := le_to c114
                    obtain ⟨g136, f117, f118, f119, f120, f121, f122, f123, f124, f125, f126, q127, q128, o129, q130, hc116, k131, k132, k133, k134, k135⟩ := hO107.comet (hu107.tm (hu65.tm (hu28.tm t2 (by decide)) (by decide)) (by decide))
                    have t137 := fO_of (k := 8) hc116 rfl
                    have t138 := fO_of (k := 9) hc116 rfl
                    exact ur_ret0 rfl (hQ _ _ rfl hO107 (hu28.tr (hu65.tr hu107)) px111 (fun m m0 m1 => (px108 m m0 m1).1 (by omega)) px110)
                  · have t139 := le_no c114
                    refine ur_ldA rfl rfl ?_
                    obtain ⟨f141, f142, hc140, k143⟩ := ok_41 hO107
                    refine ur_get rfl hc140 rfl ?_
                    refine ur_ldI rfl rfl ?_
                    obtain ⟨xs145, hc144, hn146, he147⟩ := hO107.boo (hO107.fix 49 (by decide) rfl)
                    refine ur_aldV rfl hc144 hn146 (by omega) (fun x148 hx149 => ?_)
                    have t150 := gI_of (j := x103) hc144 hx149
                    refine ur_if1 rfl (fun c151 => ?_) (fun c151 => ?_)
                    · have t152 := eq_to c151
                      refine ur_incV (fun z => [some (.inr (.inr (some 41))), some (.inr (.inr (some a1))), some (.inr (.inr (some a2))), some (.inl z), u61]) rfl rfl (fun _ => rfl) (fun x153 e154 => ?_)
                      have z155 := any_r x103
                      have t156 := ti_add e154 (by omega) (by omega)
                      refine ur_go rfl ?_
                      obtain ⟨g177, f158, f159, f160, f161, f162, f163, f164, f165, f166, f167, q168, q169, o170, q171, hc157, k172, k173, k174, k175, k176⟩ := hO107.comet (hu107.tm (hu65.tm (hu28.tm t2 (by decide)) (by decide)) (by decide))
                      have t178 := fO_of (k := 8) hc157 rfl
                      have t179 := fO_of (k := 9) hc157 rfl
                      have z180 := any_r x153
                      exact ih106 x153 _ hO107 hu107 (by omega) (MCq.n px108 (fun q => absurd ((px109 x103.toInt (by omega) (by omega)).mpr q) (by omega)) (by omega)) (FKq.e px109 rfl) px110 px111 (by omega)
                    · have t181 := eq_no c151
                      refine ur_ldA rfl rfl ?_
                      refine ur_get rfl hc140 rfl ?_
                      refine ur_ldI rfl rfl ?_
                      refine ur_dup2 rfl rfl rfl ?_
                      obtain ⟨xs183, hc182, hn184, he185⟩ := hO107.int (hO107.fix 50 (by decide) rfl)
                      refine ur_aldV rfl hc182 hn184 (by omega) (fun x186 hx187 => ?_)
                      have t188 := gI_of (j := x103) hc182 hx187
                      have tt189 := (px108 x103.toInt (by omega) (by omega)).2 (Int.le_refl _)
                      have tt190 := pre10 x103.toInt (by omega) (by omega)
                      have tt191 : 0 ≤ x186.toInt ∧ x186.toInt ≤ 149 := by omega
                      refine ur_push rfl ?_
                      refine ur_binV rfl (fun x192 e193 => ?_)
                      have z194 := any_r x186
                      have t195 := ti_add e193 (by omega) (by omega)
                      refine ur_astV (W := [50]) (m := 81) rfl hO107 hc182 (by decide) hn184 (by omega) (any_r _) (Or.inr (Or.inr (wid_fix (by decide) (by decide)))) (fun h198 hO198 hv198 d196 hc197 => ?_)
                      have hu198 : un [47, 48, 49, 50, 222, 223, 21212] h107 h198 := hv198.mono (by decide)
                      have w199 : wI h107 h198 50 ((arI h107 50).set (x103 : Int32).toInt.toNat x192) := ⟨by rw [arI_of hc197, arI_of hc182], d196⟩
                      refine ur_incV (fun z => [some (.inr (.inr (some 41))), some (.inr (.inr (some a1))), some (.inr (.inr (some a2))), some (.inl z), u61]) rfl rfl (fun _ => rfl) (fun x200 e201 => ?_)
                      have z202 := any_r x103
                      have t203 := ti_add e201 (by omega) (by omega)
                      refine ur_go rfl ?_
                      obtain ⟨g224, f205, f206, f207, f208, f209, f210, f211, f212, f213, f214, q215, q216, o217, q218, hc204, k219, k220, k221, k222, k223⟩ := hO198.comet (hu198.tm (hu107.tm (hu65.tm (hu28.tm t2 (by decide)) (by decide)) (by decide)) (by decide))
                      have t225 := fO_of (k := 8) hc204 rfl
                      have t226 := fO_of (k := 9) hc204 rfl
                      have z227 := any_r x200
                      exact ih106 x200 _ hO198 (hu107.tr hu198) (by omega) (MCq.y px108 (sq_w (am_l (a := 50) hO107 (by decide) rfl (by decide)) w199 (by omega)) (by omega) ((px109 x103.toInt (by omega) (by omega)).mp (by omega)) (by omega) (by omega)) (FKq.e px109 (gI_f (d196 49 (by decide)))) ⟨(congrFun (gI_f (d196 47 (by decide))) 0).trans px110.1, (congrFun (gI_f (d196 48 (by decide))) 0).trans px110.2⟩ (px111.uk hO107 hO198 hv198 (by decide)) (by omega)
              exact L104 _ 0 _ hO65 un.rf (by omega) (MCq.z px67 (by omega)) (FKq.c px66 (fun m m0 m1 => FXk.of (k := x60.toInt) (by omega))) px68 px69 (Nat.lt_succ_self _)
            · have t228 := lt_no c101
              refine ur_ldA rfl rfl ?_
              refine ur_ldA rfl rfl ?_
              refine ur_ldA rfl rfl ?_
              refine ur_ldI rfl rfl ?_
              obtain ⟨f230, f231, hc229, k232⟩ := ok_41 hO65
              refine ur_inl rfl (rcv_of hc229) (Nat.le_of_ble_eq_true rfl) (Nat.le_of_ble_eq_true rfl) (sd_X7_countDays hO65 g1 (hu65.tm (hu28.tm t1 (by decide)) (by decide)) g92 (hu65.tm (hu28.tm t2 (by decide)) (by decide)) _ (by show -60 ≤ x60.toInt ∧ x60.toInt ≤ 60; omega) ((pre0.un hO0 hO28 hu28 (by decide)).un hO28 hO65 hu65 (by decide)) px69 (cz_un hO0 hO65 (hu28.tr hu65) pre2 (by decide) (by decide)) ((txC_un hO0 hO65 (hu28.tr hu65) (by decide) 9 (by decide)).trans pre3) pre4 ((txC_un hO0 hO65 (hu28.tr hu65) (by decide) 11 (by decide)).trans pre5) pre6 (by rw [fO_eA (fC_un hO0 (hu28.tr hu65) g2 t2 (k := 8) (by decide) (by decide)), fO_eA (fC_un hO0 (hu28.tr hu65) g2 t2 (k := 9) (by decide) (by decide))]; omega) (by rw [fO_wu hO0 (hu28.tr hu65) ⟨g1, t1⟩ (k := 1) (by decide) (by decide), fO_wu hO0 (hu28.tr hu65) ⟨g1, t1⟩ (k := 8) (by decide) (by decide)]; exact pre7) (MVq.un pre8 hO0 (hu28.tr hu65) ⟨g1, t1⟩ (by decide)) px68 (fun w233 h237 hr234 hO237 hv237 hp235 hp236 => ?_))
              have hu237 : un [47, 48, 49, 50, 222, 223, 21212] h65 h237 := hv237.mono (by decide)
              obtain ⟨b238, rfl, t239, t240⟩ := hr234
              show uRun _ (uCall Mt _) _ 41 (_, [(.inl (bi b238))], _, _, _)
              refine ur_neB rfl (fun c241 => ?_) (fun c241 => ?_)
              · have t242 := t239 c241
                clear t239 t240
                have D243 := t242
                rw [fO_wu hO0 (hu28.tr hu65) ⟨g1, t1⟩ (k := 10) (by decide) (by decide), VC_un hO0 (hu28.tr hu65) ⟨g1, t1⟩ ⟨by decide, by decide⟩, fO_wu hO0 (hu28.tr hu65) ⟨g1, t1⟩ (k := 4) (by decide) (by decide), cf_un hO0 (hu28.tr hu65) g2 t2 (by decide), fO_wu hO0 (hu28.tr hu65) ⟨g1, t1⟩ (k := 1) (by decide) (by decide), fO_wu hO0 (hu28.tr hu65) ⟨g1, t1⟩ (k := 8) (by decide) (by decide), fO_wu hO0 (hu28.tr hu65) ⟨g1, t1⟩ (k := 2) (by decide) (by decide), fO_eA (fC_un hO0 (hu28.tr hu65) g2 t2 (k := 2) (by decide) (by decide)), fO_eA (fC_un hO0 (hu28.tr hu65) g2 t2 (k := 3) (by decide) (by decide)), fO_eA (fC_un hO0 (hu28.tr hu65) g2 t2 (k := 4) (by decide) (by decide)), fO_eA (fC_un hO0 (hu28.tr hu65) g2 t2 (k := 5) (by decide) (by decide))] at D243
                obtain ⟨Fd, Td, cd244, ct245, ct246⟩ := D243
                refine ur_push rfl ?_
                refine ur_svIk [some (.inr (.inr (some 41))), some (.inr (.inr (some a1))), some (.inr (.inr (some a2))), some (.inl x60), some (.inl 0)] rfl rfl ?_
                obtain ⟨g271, f252, f253, f254, f255, f256, f257, f258, f259, f260, f261, q262, q263, o264, q265, hc251, k266, k267, k268, k269, k270⟩ := hO237.comet (hu237.tm (hu65.tm (hu28.tm t2 (by decide)) (by decide)) (by decide))
                have t272 := fO_of (k := 8) hc251 rfl
                have t273 := fO_of (k := 9) hc251 rfl
                have L248 : ∀ (m249 : Nat) (x247 : Int32) (h274 : aH) , OK h274 → un [47, 48, 49, 50, 222, 223, 21212] h237 h274 → ((0 ≤ x247.toInt ∧ x247.toInt ≤ 81)) → (FKq (gI h274 49) (fun m => (XKb (fO h0 a2 8) (fun j m => FXz ls l1 h0 a1 a2 (cf h0 a2 j) (10 * m - 400)) x60.toInt) m ∨ (m < x247.toInt ∧ (fun j m => FXz ls l1 h0 a1 a2 (cf h0 a2 j) (10 * m - 400)) x60.toInt m))) → (gI h274 50 = gI h0 50) → (CTa h274 47 (PAd Fd Td (cf h0 a2 x60.toInt) (fun d => canP ls (fO h0 a2 2) (fO h0 a2 4) (fO h0 a2 3) (fO h0 a2 5) (fO h0 a1 2) (cf h0 a2 x60.toInt) d) (fun d => asP l1 (fO h0 a1 1) (fO h0 a1 8) (fO h0 a1 2) (fO h0 a2 2) (fO h0 a2 4) (fO h0 a2 3) (fO h0 a2 5) (d - (cf h0 a2 x60.toInt)) d)) 241) → (CTa h274 48 (PBd Fd Td (cf h0 a2 x60.toInt) (fun d => canP ls (fO h0 a2 2) (fO h0 a2 4) (fO h0 a2 3) (fO h0 a2 5) (fO h0 a1 2) (cf h0 a2 x60.toInt) d) (fun d => asP l1 (fO h0 a1 1) (fO h0 a1 8) (fO h0 a1 2) (fO h0 a2 2) (fO h0 a2 4) (fO h0 a2 3) (fO h0 a2 5) (d - (cf h0 a2 x60.toInt)) d)) 241) → (SGc ls h274) → ((82 - x247.toInt).toNat) < m249 → uRun oX7_countMovesOf (uCall Mt (d + 6)) Q 50 ([some (.inr (.inr (some 41))), some (.inr (.inr (some a1))), some (.inr (.inr (some a2))), some (.inl x60), some (.inl x247)], [], h274, kc, ks) := by
                  intro m249
                  induction m249 with
                  | zero => intro x247 h274 hO274 hu274 iv280 px275 px276 px277 px278 px279 mm281; omega
                  | succ m249 ih250 =>
                    intro x247 h274 hO274 hu274 iv280 px275 px276 px277 px278 px279 mm281
                    obtain ⟨g302, f283, f284, f285, f286, f287, f288, f289, f290, f291, f292, q293, q294, o295, q296, hc282, k297, k298, k299, k300, k301⟩ := hO274.comet (hu274.tm (hu237.tm (hu65.tm (hu28.tm t2 (by decide)) (by decide)) (by decide)) (by decide))
                    have t303 := fO_of (k := 8) hc282 rfl
                    have tt304 : fO h274 a2 8 = fO h0 a2 8 := fO_eA (fC_un hO0 (hu28.tr (hu65.tr (hu237.tr hu274))) g2 t2 (k := 8) (by decide) (by decide))
                    have t305 := fO_of (k := 9) hc282 rfl
                    have tt306 : fO h274 a2 9 = fO h0 a2 9 := fO_eA (fC_un hO0 (hu28.tr (hu65.tr (hu237.tr hu274))) g2 t2 (k := 9) (by decide) (by decide))
                    refine ur_ldI rfl rfl ?_
                    refine ur_push rfl ?_
                    refine ur_if2 rfl (fun c307 => ?_) (fun c307 => ?_)
                    · have t308 := le_to c307
                      refine ur_incV (fun z => [some (.inr (.inr (some 41))), some (.inr (.inr (some a1))), some (.inr (.inr (some a2))), some (.inl z), some (.inl x247)]) rfl rfl (fun _ => rfl) (fun x309 e310 => ?_)
                      have t311 := ti_add e310 (by omega) (by omega)
                      refine ur_go rfl ?_
                      have z312 := any_r x309
                      exact ih64 x309 _ _ hO274 (hu65.tr (hu237.tr hu274)) (by omega) (FKq.f px275 (by omega) (fun m => XKb.s (by omega) (by omega))) px276 ⟨px277.o (by omega), px278.o (by omega)⟩ px279 (by omega)
                    · have t313 := le_no c307
                      refine ur_ldA rfl rfl ?_
                      refine ur_get rfl (hu274.ko (n := 15) (hv237.ko (n := 15) hc229 rfl (wid_f (by decide)) (by decide)) rfl (wid_f (by decide)) (by decide)) rfl ?_
                      refine ur_ldI rfl rfl ?_
                      obtain ⟨xs315, hc314, hn316, he317⟩ := hO274.boo (hO274.fix 49 (by decide) rfl)
                      refine ur_aldV rfl hc314 hn316 (by omega) (fun x318 hx319 => ?_)
                      have t320 := gI_of (j := x247) hc314 hx319
                      refine ur_if1 rfl (fun c321 => ?_) (fun c321 => ?_)
                      · have t322 := ne_to c321
                        refine ur_incV (fun z => [some (.inr (.inr (some 41))), some (.inr (.inr (some a1))), some (.inr (.inr (some a2))), some (.inl x60), some (.inl z)]) rfl rfl (fun _ => rfl) (fun x323 e324 => ?_)
                        have z325 := any_r x247
                        have t326 := ti_add e324 (by omega) (by omega)
                        refine ur_go rfl ?_
                        have z327 := any_r x323
                        exact ih250 x323 _ hO274 hu274 (by omega) (FKq.o px275 (Or.inl (by omega)) (by omega) (by omega)) (rfl.trans px276) (px277.e rfl) (px278.e rfl) px279 (by omega)
                      · have t328 := ne_no c321
                        refine ur_ldA rfl rfl ?_
                        refine ur_ldA rfl rfl ?_
                        refine ur_ldA rfl rfl ?_
                        refine ur_ldI rfl rfl ?_
                        refine ur_inl rfl (rcv_of hc282) (Nat.le_of_ble_eq_true rfl) (Nat.le_of_ble_eq_true rfl) (sd_X2_passOf hO274 g302 (hu274.tm (hu237.tm (hu65.tm (hu28.tm t2 (by decide)) (by decide)) (by decide)) (by decide)) _ (by show -60 ≤ x60.toInt ∧ x60.toInt ≤ 60; omega) (fun w329 hr330 => ?_))
                        obtain ⟨x331, rfl, f332⟩ := hr330
                        show uRun _ (uCall Mt _) _ 74 (_, [(.inl x331), (.inr (.inr (some a1))), (.inr (.inr (some 41)))], _, _, _)
                        have tt333 : x331.toInt = cf h0 a2 x60.toInt := by rw [← cf_un hO0 (hu28.tr (hu65.tr (hu237.tr hu274))) g2 t2 (by decide)]; unfold cf; rw [fO_eA (fC_un hO0 (hu28.tr (hu65.tr (hu237.tr hu274))) g2 t2 (k := 8) (by decide) (by decide)), fO_eA (fC_un hO0 (hu28.tr (hu65.tr (hu237.tr hu274))) g2 t2 (k := 9) (by decide) (by decide))]; rw [if_pos (by omega)]; exact f332
                        have tt334 := pre0.rg pre2.1 pre2.2 (k := x60.toInt) (by omega)
                        refine ur_ldI rfl rfl ?_
                        refine ur_inl rfl rfl (Nat.le_of_ble_eq_true rfl) (Nat.le_of_ble_eq_true rfl) (sy_X7_moveOf _ (by show 0 ≤ x247.toInt ∧ x247.toInt ≤ 80; omega) (fun w335 hr336 => ?_))
                        obtain ⟨x337, rfl, f338⟩ := hr336
                        show uRun _ (uCall Mt _) _ 79 (_, [(.inl x337), (.inl x331), (.inr (.inr (some a1))), (.inr (.inr (some 41)))], _, _, _)
                        refine ur_inl rfl (rcv_of (hu274.ko (n := 15) (hv237.ko (n := 15) hc229 rfl (wid_f (by decide)) (by decide)) rfl (wid_f (by decide)) (by decide))) (Nat.le_of_ble_eq_true rfl) (Nat.le_of_ble_eq_true rfl) (sy_X7_isFitMoved hO274 g1 (hu274.tm (hu237.tm (hu65.tm (hu28.tm t1 (by decide)) (by decide)) (by decide)) (by decide)) _ (by show 0 ≤ x331.toInt ∧ x331.toInt ≤ 999999; omega) _ (by show -400 ≤ x337.toInt ∧ x337.toInt ≤ 400; omega) (MVq.un pre8 hO0 (hu28.tr (hu65.tr (hu237.tr hu274))) ⟨g1, t1⟩ (by decide)) px277 px278 (fun w339 hr340 => ?_))
                        obtain ⟨b341, rfl, t342, t343⟩ := hr340
                        show uRun _ (uCall Mt _) _ 82 (_, [(.inl (bi b341))], _, _, _)
                        refine ur_eqB rfl (fun c344 => ?_) (fun c344 => ?_)
                        · have t345 := t343 c344
                          clear t342 t343
                          refine ur_incV (fun z => [some (.inr (.inr (some 41))), some (.inr (.inr (some a1))), some (.inr (.inr (some a2))), some (.inl x60), some (.inl z)]) rfl rfl (fun _ => rfl) (fun x346 e347 => ?_)
                          have z348 := any_r x247
                          have t349 := ti_add e347 (by omega) (by omega)
                          refine ur_go rfl ?_
                          have z350 := any_r x346
                          exact ih250 x346 _ hO274 hu274 (by omega) (FKq.o px275 (Or.inr (fun q => absurd ((fx_iff cd244 (by omega) (fun d c => c.1)).mpr q) (by have q := t345; rw [fO_wu hO0 (hu28.tr (hu65.tr (hu237.tr hu274))) ⟨g1, t1⟩ (k := 10) (by decide) (by decide), VC_un hO0 (hu28.tr (hu65.tr (hu237.tr hu274))) ⟨g1, t1⟩ ⟨by decide, by decide⟩, fO_wu hO0 (hu28.tr (hu65.tr (hu237.tr hu274))) ⟨g1, t1⟩ (k := 4) (by decide) (by decide), fO_wu hO0 (hu28.tr (hu65.tr (hu237.tr hu274))) ⟨g1, t1⟩ (k := 1) (by decide) (by decide), show x337.toInt = 10 * x247.toInt - 400 by omega, show x331.toInt = cf h0 a2 x60.toInt by omega] at q; exact q))) (by omega) (by omega)) (rfl.trans px276) (px277.e rfl) (px278.e rfl) px279 (by omega)
                        · have t351 := t342 c344
                          clear t342 t343
                          refine ur_ldA rfl rfl ?_
                          refine ur_get rfl (hu274.ko (n := 15) (hv237.ko (n := 15) hc229 rfl (wid_f (by decide)) (by decide)) rfl (wid_f (by decide)) (by decide)) rfl ?_
                          refine ur_ldI rfl rfl ?_
                          refine ur_push rfl ?_
                          refine ur_astV (W := [49]) (m := 81) rfl hO274 hc314 (by decide) hn316 (by omega) (any_r _) (Or.inr (Or.inr (wid_fix (by decide) (by decide)))) (fun h354 hO354 hv354 d352 hc353 => ?_)
                          have hu354 : un [47, 48, 49, 50, 222, 223, 21212] h274 h354 := hv354.mono (by decide)
                          have w355 : wI h274 h354 49 ((arI h274 49).set (x247 : Int32).toInt.toNat 1) := ⟨by rw [arI_of hc353, arI_of hc314, nb_1], d352⟩
                          refine ur_incV (fun z => [some (.inr (.inr (some 41))), some (.inr (.inr (some a1))), some (.inr (.inr (some a2))), some (.inl x60), some (.inl z)]) rfl rfl (fun _ => rfl) (fun x356 e357 => ?_)
                          have z358 := any_r x247
                          have t359 := ti_add e357 (by omega) (by omega)
                          refine ur_go rfl ?_
                          have t360 := fO_of (k := 8) ((d352 _ (ne_tg (hu354.tm (hu274.tm (hu237.tm (hu65.tm (hu28.tm t2 (by decide)) (by decide)) (by decide)) (by decide)) (by decide)) (hO354.fix 49 (by decide) rfl) (by decide))).trans hc282) rfl
                          have t361 := fO_of (k := 9) ((d352 _ (ne_tg (hu354.tm (hu274.tm (hu237.tm (hu65.tm (hu28.tm t2 (by decide)) (by decide)) (by decide)) (by decide)) (by decide)) (hO354.fix 49 (by decide) rfl) (by decide))).trans hc282) rfl
                          have z362 := any_r x356
                          exact ih250 x356 _ hO354 (hu274.tr hu354) (by omega) (FKq.w px275 (by have q := (sq_w (am_l (a := 49) hO274 (by decide) rfl (by decide)) w355 (by omega)); rw [l_1] at q; exact q) ((fx_iff cd244 (by omega) (fun d c => c.1)).mp (by have q := t351; rw [fO_wu hO0 (hu28.tr (hu65.tr (hu237.tr hu274))) ⟨g1, t1⟩ (k := 10) (by decide) (by decide), VC_un hO0 (hu28.tr (hu65.tr (hu237.tr hu274))) ⟨g1, t1⟩ ⟨by decide, by decide⟩, fO_wu hO0 (hu28.tr (hu65.tr (hu237.tr hu274))) ⟨g1, t1⟩ (k := 4) (by decide) (by decide), fO_wu hO0 (hu28.tr (hu65.tr (hu237.tr hu274))) ⟨g1, t1⟩ (k := 1) (by decide) (by decide), show x337.toInt = 10 * x247.toInt - 400 by omega, show x331.toInt = cf h0 a2 x60.toInt by omega] at q; exact q)) (by omega)) ((gI_f (d352 50 (by decide))).trans px276) (px277.e (gI_f (d352 47 (by decide)))) (px278.e (gI_f (d352 48 (by decide)))) (px279.uk hO274 hO354 hv354 (by decide)) (by omega)
                exact L248 _ 0 _ hO237 un.rf (by omega) (FKq.i (FKq.e px66 (gI_fk (a := 49) (kd := 3) (n := 81) hO65 hv237 (by decide) rfl (by decide) rfl (by decide) (by decide))) (by omega)) ((gI_fk (a := 50) (kd := 0) (n := 81) hO65 hv237 (by decide) rfl (by decide) rfl (by decide) (by decide)).trans px67) ct245 ct246 hp235 (Nat.lt_succ_self _)
              · have t363 := t240 c241
                clear t239 t240
                have D364 := t363
                rw [fO_wu hO0 (hu28.tr hu65) ⟨g1, t1⟩ (k := 10) (by decide) (by decide), VC_un hO0 (hu28.tr hu65) ⟨g1, t1⟩ ⟨by decide, by decide⟩, fO_wu hO0 (hu28.tr hu65) ⟨g1, t1⟩ (k := 4) (by decide) (by decide), cf_un hO0 (hu28.tr hu65) g2 t2 (by decide)] at D364
                refine ur_go rfl ?_
                refine ur_incV (fun z => [some (.inr (.inr (some 41))), some (.inr (.inr (some a1))), some (.inr (.inr (some a2))), some (.inl z), u61]) rfl rfl (fun _ => rfl) (fun x365 e366 => ?_)
                have t367 := ti_add e366 (by omega) (by omega)
                refine ur_go rfl ?_
                obtain ⟨g388, f369, f370, f371, f372, f373, f374, f375, f376, f377, f378, q379, q380, o381, q382, hc368, k383, k384, k385, k386, k387⟩ := hO237.comet (hu237.tm (hu65.tm (hu28.tm t2 (by decide)) (by decide)) (by decide))
                have t389 := fO_of (k := 8) hc368 rfl
                have t390 := fO_of (k := 9) hc368 rfl
                have z391 := any_r x365
                exact ih64 x365 _ _ hO237 (hu65.tr hu237) (by omega) (FKq.c (FKq.e px66 (gI_fk (a := 49) (kd := 3) (n := 81) hO65 hv237 (by decide) rfl (by decide) rfl (by decide) (by decide))) (fun m m0 m1 => (XKb.s (by omega) (by omega)).trans ⟨fun q => q.elim id (fun q => absurd q (fx_no D364 (by omega))), Or.inl⟩)) ((gI_fk (a := 50) (kd := 0) (n := 81) hO65 hv237 (by decide) rfl (by decide) rfl (by decide) (by decide)).trans px67) hp236 hp235 (by omega)
        have z392 := any_r f46
        have tt393 : fO h28 a2 8 = fO h0 a2 8 := fO_eA (fC_un hO0 hu28 g2 t2 (k := 8) (by decide) (by decide))
        have tt394 : fO h28 a2 9 = fO h0 a2 9 := fO_eA (fC_un hO0 hu28 g2 t2 (k := 9) (by decide) (by decide))
        exact L62 _ f46 (none) _ hO28 un.rf (by omega) (FKq.z px29 (by omega) (by omega)) px30 px31 px32 (Nat.lt_succ_self _)
      · have t395 := le_no c35
        refine ur_ldA rfl rfl ?_
        obtain ⟨f397, f398, hc396, k399⟩ := ok_41 hO28
        refine ur_get rfl hc396 rfl ?_
        refine ur_ldI rfl rfl ?_
        refine ur_push rfl ?_
        obtain ⟨xs401, hc400, hn402, he403⟩ := hO28.boo (hO28.fix 49 (by decide) rfl)
        refine ur_astV (W := [49]) (m := 81) rfl hO28 hc400 (by decide) hn402 (by omega) (any_r _) (Or.inr (Or.inr (wid_fix (by decide) (by decide)))) (fun h406 hO406 hv406 d404 hc405 => ?_)
        have hu406 : un [47, 48, 49, 50, 222, 223, 21212] h28 h406 := hv406.mono (by decide)
        have w407 : wI h28 h406 49 ((arI h28 49).set (x24 : Int32).toInt.toNat 0) := ⟨by rw [arI_of hc405, arI_of hc400, nb_0], d404⟩
        refine ur_incV (fun z => [some (.inr (.inr (some 41))), some (.inr (.inr (some a1))), some (.inr (.inr (some a2))), some (.inl z), none]) rfl rfl (fun _ => rfl) (fun x408 e409 => ?_)
        have z410 := any_r x24
        have t411 := ti_add e409 (by omega) (by omega)
        refine ur_go rfl ?_
        obtain ⟨g432, f413, f414, f415, f416, f417, f418, f419, f420, f421, f422, q423, q424, o425, q426, hc412, k427, k428, k429, k430, k431⟩ := hO406.comet (hu406.tm (hu28.tm t2 (by decide)) (by decide))
        have t433 := fO_of (k := 8) hc412 rfl
        have t434 := fO_of (k := 9) hc412 rfl
        have z435 := any_r x408
        exact ih27 x408 _ hO406 (hu28.tr hu406) (by omega) (ZFq.s px29 (sq_w (am_l (a := 49) hO28 (by decide) rfl (by decide)) w407 (by omega)) (by omega) (by omega)) ((gI_f (d404 50 (by decide))).trans px30) ⟨(congrFun (gI_f (d404 47 (by decide))) 0).trans px31.1, (congrFun (gI_f (d404 48 (by decide))) 0).trans px31.2⟩ (px32.uk hO28 hO406 hv406 (by decide)) (by omega)
  exact L25 _ 0 _ hO0 un.rf (by omega) (fun m m0 m1 => by omega) rfl pre9 pre1 (Nat.lt_succ_self _)

set_option maxRecDepth 20000 in
set_option maxHeartbeats 4000000 in
theorem sd_X7_forgetMoves {d kc ks : Nat} {h0 : aH} {Q : Option aV → aH → Prop} (hO0 : OK h0)  (hQ : ∀ r h', (r = none) → OK h' → un [50] h0 h' → (∀ m : Int, 0 ≤ m → m ≤ 80 → gI h' 50 m = 0) → Q r h') : uCall Mt (d + 2) 80 [(.inr (.inr (some 41)))] h0 kc ks Q := by
  have l_0 : ((0) : Int32).toInt = 0 := by decide
  refine uc_ink [some (.inr (.inr (some 41)))] mt_80 (Nat.le_of_ble_eq_true rfl) rfl ?_
  refine ur_ldA rfl rfl ?_
  obtain ⟨f2, f3, hc1, k4⟩ := ok_41 hO0
  refine ur_get rfl hc1 rfl ?_
  refine ur_push rfl ?_
  obtain ⟨xs6, hc5, hn7, he8⟩ := hO0.int (hO0.fix 50 (by decide) rfl)
  refine ur_inl rfl rfl (Nat.le_of_ble_eq_true rfl) (Nat.le_of_ble_eq_true rfl) (sd_fillI (W := [50]) hO0 hc5 hn7 (by decide) (any_w rfl _) (Or.inr (Or.inr (wid_fix (by decide) (by decide)))) (fun h10 hO10 hu10 d9 hc11 => ?_))
  have w12 : wI h0 h10 50 (List.replicate 81 0) := ⟨arI_of hc11, d9⟩
  show uRun _ (uCall Mt _) _ 8 (_, [], _, _, _)
  exact ur_ret0 rfl (hQ _ _ rfl hO10 hu10 (fun m m0 m1 => by have q := gI_rep w12.1 m0 (show m < ((81 : Nat) : Int) by omega); rw [l_0] at q; exact q))

set_option maxRecDepth 20000 in
set_option maxHeartbeats 4000000 in
theorem sy_X7_bestMove {d kc ks : Nat} {h0 : aH} {Q : Option aV → aH → Prop} (hO0 : OK h0) (a1 : Int32) (pre0 : ∀ m : Int, 0 ≤ m → m ≤ 80 → 0 ≤ gI h0 50 m ∧ gI h0 50 m ≤ 150) (hQ : ∀ r, (∃ x : Int32, r = some (.inl x) ∧ (∃ b, (0 ≤ b ∧ b ≤ 80) ∧ BSm (fun mv => gI h0 50 ((mv + 400) / 10)) (DMc 81) (10 * b - 400) ∧ (a1.toInt = 0 → x.toInt = 10 * b - 400) ∧ (a1.toInt ≠ 0 → x.toInt = gI h0 50 b))) → Q r h0) : uCall Mt (d + 2) 81 [(.inr (.inr (some 41))), (.inl a1)] h0 kc ks Q := by
  have l_0 : ((0) : Int32).toInt = 0 := by decide
  have l_1 : ((1) : Int32).toInt = 1 := by decide
  have l_81 : ((81) : Int32).toInt = 81 := by decide
  refine uc_ink [some (.inr (.inr (some 41))), some (.inl a1), none, none, none] mt_81 (Nat.le_of_ble_eq_true rfl) rfl ?_
  refine ur_push rfl ?_
  refine ur_svIk [some (.inr (.inr (some 41))), some (.inl a1), some (.inl 0), none, none] rfl rfl ?_
  refine ur_push rfl ?_
  refine ur_svIk [some (.inr (.inr (some 41))), some (.inl a1), some (.inl 0), some (.inl 1), none] rfl rfl ?_
  have L4 : ∀ (m5 : Nat) (x1 : Int32) (x2 : Int32) (u3 : Option aV) , ((0 ≤ x1.toInt ∧ x1.toInt ≤ 80) ∧ (1 ≤ x2.toInt ∧ x2.toInt ≤ 81) ∧ x1.toInt < x2.toInt) → (BSm (fun mv => gI h0 50 ((mv + 400) / 10)) (DMc x2.toInt) (10 * x1.toInt - 400)) → ((82 - x2.toInt).toNat) < m5 → uRun oX7_bestMove (uCall Mt (d + 1)) Q 4 ([some (.inr (.inr (some 41))), some (.inl a1), some (.inl x1), some (.inl x2), u3], [], h0, kc, ks) := by
    intro m5
    induction m5 with
    | zero => intro x1 x2 u3 iv8 px7 mm9; omega
    | succ m5 ih6 =>
      intro x1 x2 u3 iv8 px7 mm9
      refine ur_ldI rfl rfl ?_
      refine ur_push rfl ?_
      refine ur_if2 rfl (fun c10 => ?_) (fun c10 => ?_)
      · have t11 := le_to c10
        refine ur_ldI rfl rfl ?_
        refine ur_if1 rfl (fun c12 => ?_) (fun c12 => ?_)
        · have t13 := ne_to c12
          refine ur_ldA rfl rfl ?_
          obtain ⟨f15, f16, hc14, k17⟩ := ok_41 hO0
          refine ur_get rfl hc14 rfl ?_
          refine ur_ldI rfl rfl ?_
          obtain ⟨xs19, hc18, hn20, he21⟩ := hO0.int (hO0.fix 50 (by decide) rfl)
          refine ur_aldV rfl hc18 hn20 (by omega) (fun x22 hx23 => ?_)
          have t24 := gI_of (j := x1) hc18 hx23
          exact ur_ret rfl rfl (hQ _ ⟨_, rfl, ⟨x1.toInt, ⟨by omega, by omega⟩, (px7.c (fun m => by rw [show x2.toInt = 81 by omega])), fun _ => by omega, fun _ => by omega⟩⟩ )
        · have t25 := ne_no c12
          refine ur_ldI rfl rfl ?_
          refine ur_inl rfl rfl (Nat.le_of_ble_eq_true rfl) (Nat.le_of_ble_eq_true rfl) (sy_X7_moveOf _ (by show 0 ≤ x1.toInt ∧ x1.toInt ≤ 80; omega) (fun w26 hr27 => ?_))
          obtain ⟨x28, rfl, f29⟩ := hr27
          show uRun _ (uCall Mt _) _ 68 (_, [(.inl x28)], _, _, _)
          refine ur_go rfl ?_
          exact ur_ret rfl rfl (hQ _ ⟨_, rfl, ⟨x1.toInt, ⟨by omega, by omega⟩, (px7.c (fun m => by rw [show x2.toInt = 81 by omega])), fun _ => by omega, fun _ => by omega⟩⟩ )
      · have t30 := le_no c10
        refine ur_ldA rfl rfl ?_
        obtain ⟨f32, f33, hc31, k34⟩ := ok_41 hO0
        refine ur_get rfl hc31 rfl ?_
        refine ur_ldI rfl rfl ?_
        obtain ⟨xs36, hc35, hn37, he38⟩ := hO0.int (hO0.fix 50 (by decide) rfl)
        refine ur_aldV rfl hc35 hn37 (by omega) (fun x39 hx40 => ?_)
        have t41 := gI_of (j := x2) hc35 hx40
        have tt42 := pre0 x2.toInt (by omega) (by omega)
        have tt43 : 0 ≤ x39.toInt ∧ x39.toInt ≤ 150 := by omega
        refine ur_ldA rfl rfl ?_
        refine ur_get rfl hc31 rfl ?_
        refine ur_ldI rfl rfl ?_
        refine ur_aldV rfl hc35 hn37 (by omega) (fun x44 hx45 => ?_)
        have t46 := gI_of (j := x1) hc35 hx45
        have tt47 := pre0 x1.toInt (by omega) (by omega)
        have tt48 : 0 ≤ x44.toInt ∧ x44.toInt ≤ 150 := by omega
        refine ur_binV rfl (fun x49 e50 => ?_)
        have z51 := any_r x39
        have z52 := any_r x44
        have t53 := ti_sub e50 (by omega) (by omega)
        refine ur_svIk [some (.inr (.inr (some 41))), some (.inl a1), some (.inl x1), some (.inl x2), some (.inl x49)] rfl rfl ?_
        refine ur_ldI rfl rfl ?_
        refine ur_if1 rfl (fun c54 => ?_) (fun c54 => ?_)
        · have t55 := lt_to c54
          refine ur_ldI rfl rfl ?_
          refine ur_svIk [some (.inr (.inr (some 41))), some (.inl a1), some (.inl x2), some (.inl x2), some (.inl x49)] rfl rfl ?_
          refine ur_incV (fun z => [some (.inr (.inr (some 41))), some (.inl a1), some (.inl x2), some (.inl z), some (.inl x49)]) rfl rfl (fun _ => rfl) (fun x56 e57 => ?_)
          have z58 := any_r x2
          have t59 := ti_add e57 (by omega) (by omega)
          refine ur_go rfl ?_
          have z60 := any_r x56
          exact ih6 x2 x56 _ (by omega) (px7.n (i := 10 * x2.toInt - 400) (fun q => DMc.s (by omega) (by omega)) (by have eb := (show gI h0 50 ((10 * x1.toInt - 400 + 400) / 10) = gI h0 50 x1.toInt from congrArg (gI h0 50) (by omega)); have em := (show gI h0 50 ((10 * x2.toInt - 400 + 400) / 10) = gI h0 50 x2.toInt from congrArg (gI h0 50) (by omega)); show gI h0 50 ((10 * x1.toInt - 400 + 400) / 10) < gI h0 50 ((10 * x2.toInt - 400 + 400) / 10) ∨ (gI h0 50 ((10 * x2.toInt - 400 + 400) / 10) = gI h0 50 ((10 * x1.toInt - 400 + 400) / 10) ∧ RKm (10 * x2.toInt - 400) (10 * x1.toInt - 400)); rw [eb, em]; unfold RKm; omega)) (by omega)
        · have t61 := lt_no c54
          refine ur_ldI rfl rfl ?_
          refine ur_if1 rfl (fun c62 => ?_) (fun c62 => ?_)
          · have t63 := ne_to c62
            refine ur_incV (fun z => [some (.inr (.inr (some 41))), some (.inl a1), some (.inl x1), some (.inl z), some (.inl x49)]) rfl rfl (fun _ => rfl) (fun x64 e65 => ?_)
            have z66 := any_r x2
            have t67 := ti_add e65 (by omega) (by omega)
            refine ur_go rfl ?_
            have z68 := any_r x1
            have z69 := any_r x64
            exact ih6 x1 x64 _ (by omega) (px7.k (i := 10 * x2.toInt - 400) (fun q => DMc.s (by omega) (by omega)) (by have eb := (show gI h0 50 ((10 * x1.toInt - 400 + 400) / 10) = gI h0 50 x1.toInt from congrArg (gI h0 50) (by omega)); have em := (show gI h0 50 ((10 * x2.toInt - 400 + 400) / 10) = gI h0 50 x2.toInt from congrArg (gI h0 50) (by omega)); show gI h0 50 ((10 * x2.toInt - 400 + 400) / 10) < gI h0 50 ((10 * x1.toInt - 400 + 400) / 10) ∨ (gI h0 50 ((10 * x2.toInt - 400 + 400) / 10) = gI h0 50 ((10 * x1.toInt - 400 + 400) / 10) ∧ RKm (10 * x1.toInt - 400) (10 * x2.toInt - 400)); rw [eb, em]; unfold RKm; omega)) (by omega)
          · have t70 := ne_no c62
            refine ur_ldI rfl rfl ?_
            refine ur_inl rfl rfl (Nat.le_of_ble_eq_true rfl) (Nat.le_of_ble_eq_true rfl) (sy_X7_moveOf _ (by show 0 ≤ x2.toInt ∧ x2.toInt ≤ 80; omega) (fun w71 hr72 => ?_))
            obtain ⟨x73, rfl, f74⟩ := hr72
            show uRun _ (uCall Mt _) _ 39 (_, [(.inl x73)], _, _, _)
            refine ur_absV rfl (by show ¬ 9 ≤ 1; decide) (fun x75 t76 e77 => ?_)
            have t78 := t76 (by omega)
            clear t76
            refine ur_ldI rfl rfl ?_
            refine ur_inl rfl rfl (Nat.le_of_ble_eq_true rfl) (Nat.le_of_ble_eq_true rfl) (sy_X7_moveOf _ (by show 0 ≤ x1.toInt ∧ x1.toInt ≤ 80; omega) (fun w79 hr80 => ?_))
            obtain ⟨x81, rfl, f82⟩ := hr80
            show uRun _ (uCall Mt _) _ 46 (_, [(.inl x81), (.inl x75)], _, _, _)
            refine ur_absV rfl (by show ¬ 9 ≤ 2; decide) (fun x83 t84 e85 => ?_)
            have t86 := t84 (by omega)
            clear t84
            have z87 := any_r x75
            have z88 := any_r x83
            refine ur_if2 rfl (fun c89 => ?_) (fun c89 => ?_)
            · have t90 := le_to c89
              refine ur_incV (fun z => [some (.inr (.inr (some 41))), some (.inl a1), some (.inl x1), some (.inl z), some (.inl x49)]) rfl rfl (fun _ => rfl) (fun x91 e92 => ?_)
              have z93 := any_r x2
              have t94 := ti_add e92 (by omega) (by omega)
              refine ur_go rfl ?_
              have z95 := any_r x1
              have z96 := any_r x91
              exact ih6 x1 x91 _ (by omega) (px7.k (i := 10 * x2.toInt - 400) (fun q => DMc.s (by omega) (by omega)) (by have eb := (show gI h0 50 ((10 * x1.toInt - 400 + 400) / 10) = gI h0 50 x1.toInt from congrArg (gI h0 50) (by omega)); have em := (show gI h0 50 ((10 * x2.toInt - 400 + 400) / 10) = gI h0 50 x2.toInt from congrArg (gI h0 50) (by omega)); show gI h0 50 ((10 * x2.toInt - 400 + 400) / 10) < gI h0 50 ((10 * x1.toInt - 400 + 400) / 10) ∨ (gI h0 50 ((10 * x2.toInt - 400 + 400) / 10) = gI h0 50 ((10 * x1.toInt - 400 + 400) / 10) ∧ RKm (10 * x1.toInt - 400) (10 * x2.toInt - 400)); rw [eb, em]; unfold RKm; omega)) (by omega)
            · have t97 := le_no c89
              refine ur_ldI rfl rfl ?_
              refine ur_svIk [some (.inr (.inr (some 41))), some (.inl a1), some (.inl x2), some (.inl x2), some (.inl x49)] rfl rfl ?_
              refine ur_incV (fun z => [some (.inr (.inr (some 41))), some (.inl a1), some (.inl x2), some (.inl z), some (.inl x49)]) rfl rfl (fun _ => rfl) (fun x98 e99 => ?_)
              have z100 := any_r x2
              have t101 := ti_add e99 (by omega) (by omega)
              refine ur_go rfl ?_
              have z102 := any_r x98
              exact ih6 x2 x98 _ (by omega) (px7.n (i := 10 * x2.toInt - 400) (fun q => DMc.s (by omega) (by omega)) (by have eb := (show gI h0 50 ((10 * x1.toInt - 400 + 400) / 10) = gI h0 50 x1.toInt from congrArg (gI h0 50) (by omega)); have em := (show gI h0 50 ((10 * x2.toInt - 400 + 400) / 10) = gI h0 50 x2.toInt from congrArg (gI h0 50) (by omega)); show gI h0 50 ((10 * x1.toInt - 400 + 400) / 10) < gI h0 50 ((10 * x2.toInt - 400 + 400) / 10) ∨ (gI h0 50 ((10 * x2.toInt - 400 + 400) / 10) = gI h0 50 ((10 * x1.toInt - 400 + 400) / 10) ∧ RKm (10 * x2.toInt - 400) (10 * x1.toInt - 400)); rw [eb, em]; unfold RKm; omega)) (by omega)
  exact L4 _ 0 1 (none) (by omega) (by rw [l_0, l_1]; exact ⟨⟨0, by omega, by omega⟩, fun m ⟨q, r, e⟩ => Or.inr ⟨congrArg (gI h0 50) (by omega), by unfold RKm; omega⟩⟩) (Nat.lt_succ_self _)

set_option maxRecDepth 20000 in
set_option maxHeartbeats 4000000 in
theorem sd_X11_right {d kc ks : Nat} {h0 : aH} {Q : Option aV → aH → Prop} {ls : List (List (Int × Int) × List (Int × Int))} {l1 : List (List (Int × Int) × List (Int × Int))} (hO0 : OK h0) (a1 : Int32) (a2 : Int32) (a3 : Int32) (pre0 : NA h0) (pre1 : SGc ls h0) (pre2 : SKc h0) (pre3 : txC h0 9 = cfl 0 ls) (pre4 : ∀ l ∈ ls, lnG l) (pre5 : txC h0 11 = cfl 0 l1) (pre6 : ∀ l ∈ l1, lnG l) (pre7 : RTW h0) (pre8 : LDw h0) (pre9 : gI h0 47 0 = 0 ∧ gI h0 48 0 = 0) (pre10 : N3w h0) (hQ : ∀ r h', (∃ x : Int32, r = some (.inl x) ∧ ((¬ ((0 ≤ a2.toInt ∧ a2.toInt < fO h0 1 4) ∧ (0 ≤ a1.toInt ∧ a1.toInt ≤ 8) ∧ (0 ≤ a3.toInt ∧ a3.toInt ≤ 1)) → x.toInt = -2000000000) ∧ (((0 ≤ a2.toInt ∧ a2.toInt < fO h0 1 4) ∧ (0 ≤ a1.toInt ∧ a1.toInt ≤ 8) ∧ (0 ≤ a3.toInt ∧ a3.toInt ≤ 1)) → ∃ z, cz h0 a2.toInt z ∧ ∃ b, BSm (fun mv => cq (RWF ls l1 h0 a1.toInt z mv) 0 (fO h0 15 1)) (DMc 81) b ∧ (a3.toInt = 0 → x.toInt = b) ∧ (a3.toInt ≠ 0 → x.toInt = (fun mv => cq (RWF ls l1 h0 a1.toInt z mv) 0 (fO h0 15 1)) b)))) → OK h' → un [47, 48, 49, 50, 222, 223, 21212] h0 h' → (SGc ls h') → (gI h' 47 0 = 0 ∧ gI h' 48 0 = 0) → Q r h') : uCall Mt (d + 8) 153 [(.inr (.inr (some 0))), (.inl a1), (.inl a2), (.inl a3)] h0 kc ks Q := by
  have l_m2000000000 : ((-2000000000) : Int32).toInt = -2000000000 := by decide
  have l_0 : ((0) : Int32).toInt = 0 := by decide
  have l_1 : ((1) : Int32).toInt = 1 := by decide
  have l_3 : ((3) : Int32).toInt = 3 := by decide
  have l_8 : ((8) : Int32).toInt = 8 := by decide
  refine uc_ink [some (.inr (.inr (some 0))), some (.inl a1), some (.inl a2), some (.inl a3), none, none, none] mt_153 (Nat.le_of_ble_eq_true rfl) rfl ?_
  obtain ⟨f2, f3, hc1, k4⟩ := ok_1 hO0
  have t5 := fO_of (k := 4) hc1 rfl
  obtain ⟨f7, f8, f9, f10, hc6, k11⟩ := ok_15 hO0
  have t12 := fO_of (k := 1) hc6 rfl
  refine ur_ldA rfl rfl ?_
  obtain ⟨hc13, k14⟩ := ok_0 hO0
  refine ur_get rfl hc13 rfl ?_
  refine ur_ldI rfl rfl ?_
  refine ur_inl rfl (rcv_of hc1) (Nat.le_of_ble_eq_true rfl) (Nat.le_of_ble_eq_true rfl) (sd_X6_cometAt hO0 _ pre2 (fun w15 hr16 => ?_))
  obtain ⟨o17, rfl, k18, t19, t20⟩ := hr16
  show uRun _ (uCall Mt _) _ 8 (_, [(.inr (.inr o17))], _, _, _)
  refine ur_svAk [some (.inr (.inr (some 0))), some (.inl a1), some (.inl a2), some (.inl a3), some (.inr (.inr o17)), none, none] rfl rfl ?_
  refine ur_ldA rfl rfl ?_
  cases o17 with
  | none =>
    refine ur_nulN rfl ?_
    have t22 := t19 rfl
    refine ur_push rfl ?_
    exact ur_ret rfl rfl (hQ _ _ ⟨_, rfl, ⟨fun _ => by omega, fun q => by exfalso; omega⟩⟩ hO0 un.rf pre1 pre9)
  | some r21 =>
    refine ur_nulS rfl ?_
    have k23 := k18 _ rfl
    have t24 := t20 _ rfl
    refine ur_ldI rfl rfl ?_
    refine ur_callv rfl rfl (Nat.le_of_ble_eq_true rfl) (Nat.le_of_ble_eq_true rfl) rfl (sp_isPpl _ _) ?_
    refine ur_eqB rfl (fun c27 => ?_) (fun c27 => ?_)
    · have t28 := wi_noL c27 l_0 l_8
      refine ur_push rfl ?_
      exact ur_ret rfl rfl (hQ _ _ ⟨_, rfl, ⟨fun _ => by omega, fun q => by exfalso; omega⟩⟩ hO0 un.rf pre1 pre9)
    · have t29 := wi_toL c27 l_0 l_8
      refine ur_ldI rfl rfl ?_
      refine ur_push rfl ?_
      refine ur_push rfl ?_
      refine ur_callv rfl rfl (Nat.le_of_ble_eq_true rfl) (Nat.le_of_ble_eq_true rfl) rfl (sp_within _ _ _ _ _) ?_
      refine ur_neB rfl (fun c32 => ?_) (fun c32 => ?_)
      · have t33 := wi_toL c32 l_0 l_1
        obtain ⟨g54, f35, f36, f37, f38, f39, f40, f41, f42, f43, f44, q45, q46, o47, q48, hc34, k49, k50, k51, k52, k53⟩ := hO0.comet k23.2
        have t55 := fO_of (k := 8) hc34 rfl
        have t56 := fO_of (k := 9) hc34 rfl
        have cd57 := (pre1.1 a2.toInt r21 t24.1.1 t24.1.2 t24.2).1
        refine ur_ldA rfl rfl ?_
        refine ur_get rfl hc13 rfl ?_
        obtain ⟨f59, f60, hc58, k61⟩ := ok_41 hO0
        refine ur_inl rfl (rcv_of hc58) (Nat.le_of_ble_eq_true rfl) (Nat.le_of_ble_eq_true rfl) (sd_X7_forgetMoves hO0  (fun w62 h65 hr63 hO65 hv65 hp64 => ?_))
        have hu65 : un [47, 48, 49, 50, 222, 223, 21212] h0 h65 := hv65.mono (by decide)
        subst hr63
        show uRun _ (uCall Mt _) _ 41 (_, [], _, _, _)
        refine ur_push rfl ?_
        refine ur_svIk [some (.inr (.inr (some 0))), some (.inl a1), some (.inl a2), some (.inl a3), some (.inr (.inr (some r21))), some (.inl 0), none] rfl rfl ?_
        have t71 := fO_of (k := 4) (hv65.ko (n := 5) hc1 rfl (wid_f (by decide)) (by decide)) rfl
        have t72 := fO_of (k := 1) (hv65.ko (n := 11) hc6 rfl (wid_f (by decide)) (by decide)) rfl
        have L68 : ∀ (m69 : Nat) (x66 : Int32) (u67 : Option aV) (h73 : aH) , OK h73 → un [47, 48, 49, 50, 222, 223, 21212] h65 h73 → ((0 ≤ x66.toInt ∧ x66.toInt ≤ 150) ∧ x66.toInt ≤ fO h0 15 1) → (RCq (gI h73 50) (RWF ls l1 h0 a1.toInt r21) x66.toInt) → (gI h73 47 0 = 0 ∧ gI h73 48 0 = 0) → (SGc ls h73) → ((151 - x66.toInt).toNat) < m69 → uRun oX11_right (uCall Mt (d + 7)) Q 44 ([some (.inr (.inr (some 0))), some (.inl a1), some (.inl a2), some (.inl a3), some (.inr (.inr (some r21))), some (.inl x66), u67], [], h73, kc, ks) := by
          intro m69
          induction m69 with
          | zero => intro x66 u67 h73 hO73 hu73 iv77 px74 px75 px76 mm78; omega
          | succ m69 ih70 =>
            intro x66 u67 h73 hO73 hu73 iv77 px74 px75 px76 mm78
            refine ur_ldI rfl rfl ?_
            refine ur_ldA rfl rfl ?_
            refine ur_get rfl (hu73.ko (n := 8) (hv65.ko (n := 8) hc13 rfl (wid_f (by decide)) (by decide)) rfl (wid_f (by decide)) (by decide)) rfl ?_
            refine ur_get rfl (hu73.ko (n := 11) (hv65.ko (n := 11) hc6 rfl (wid_f (by decide)) (by decide)) rfl (wid_f (by decide)) (by decide)) rfl ?_
            have t79 := fO_of (k := 1) (hu73.ko (n := 11) (hv65.ko (n := 11) hc6 rfl (wid_f (by decide)) (by decide)) rfl (wid_f (by decide)) (by decide)) rfl
            have z80 := any_r x66
            have z81 := any_r f7
            refine ur_if2 rfl (fun c82 => ?_) (fun c82 => ?_)
            · have t83 := le_to c82
              refine ur_ldA rfl rfl ?_
              refine ur_get rfl (hu73.ko (n := 8) (hv65.ko (n := 8) hc13 rfl (wid_f (by decide)) (by decide)) rfl (wid_f (by decide)) (by decide)) rfl ?_
              refine ur_ldI rfl rfl ?_
              refine ur_inl rfl (rcv_of (hu73.ko (n := 15) (hv65.ko (n := 15) hc58 rfl (wid_f (by decide)) (by decide)) rfl (wid_f (by decide)) (by decide))) (Nat.le_of_ble_eq_true rfl) (Nat.le_of_ble_eq_true rfl) (sy_X7_bestMove hO73 _ (fun m m0 m1 => by have q := RCq.r px74 (by omega) m0 m1; omega) (fun w84 hr85 => ?_))
              obtain ⟨x86, rfl, f87⟩ := hr85
              show uRun _ (uCall Mt _) _ 115 (_, [(.inl x86)], _, _, _)
              have t88 := fO_of (k := 4) (hu73.ko (n := 5) (hv65.ko (n := 5) hc1 rfl (wid_f (by decide)) (by decide)) rfl (wid_f (by decide)) (by decide)) rfl
              exact ur_ret rfl rfl (hQ _ _ ⟨_, rfl, ⟨fun q => absurd (by omega) q, fun _ => ⟨r21, t24.2, BM_of (G := fun mv => cq (RWF ls l1 h0 a1.toInt r21 mv) 0 (fO h0 15 1)) (RCq.e px74 (by omega)) f87⟩⟩⟩ hO73 (hu65.tr hu73) px76 px75)
            · have t89 := le_no c82
              refine ur_ldA rfl rfl ?_
              refine ur_get rfl (hu73.ko (n := 8) (hv65.ko (n := 8) hc13 rfl (wid_f (by decide)) (by decide)) rfl (wid_f (by decide)) (by decide)) rfl ?_
              refine ur_ldI rfl rfl ?_
              refine ur_inl rfl (rcv_of (hu73.ko (n := 11) (hv65.ko (n := 11) hc6 rfl (wid_f (by decide)) (by decide)) rfl (wid_f (by decide)) (by decide))) (Nat.le_of_ble_eq_true rfl) (Nat.le_of_ble_eq_true rfl) (se_X1_wordAt hO73 _ (pre0.un hO0 hO73 (hu65.tr hu73) (by decide) (by decide)) (fun w90 hr91 => ?_))
              obtain ⟨o92, rfl, k93, t94, t95⟩ := hr91
              show uRun _ (uCall Mt _) _ 65 (_, [(.inr (.inr o92))], _, _, _)
              refine ur_svAk [some (.inr (.inr (some 0))), some (.inl a1), some (.inl a2), some (.inl a3), some (.inr (.inr (some r21))), some (.inl x66), some (.inr (.inr o92))] rfl rfl ?_
              refine ur_ldA rfl rfl ?_
              cases o92 with
              | none =>
                refine ur_nulN rfl ?_
                have t97 := t94 rfl
                refine ur_incV (fun z => [some (.inr (.inr (some 0))), some (.inl a1), some (.inl a2), some (.inl a3), some (.inr (.inr (some r21))), some (.inl z), some (.inr (.inr none))]) rfl rfl (fun _ => rfl) (fun x98 e99 => ?_)
                have t100 := ti_add e99 (by omega) (by omega)
                refine ur_go rfl ?_
                have t101 := fO_of (k := 4) (hu73.ko (n := 5) (hv65.ko (n := 5) hc1 rfl (wid_f (by decide)) (by decide)) rfl (wid_f (by decide)) (by decide)) rfl
                have z102 := any_r x98
                exact ih70 x98 _ _ hO73 hu73 (by omega) (by exfalso; omega) px75 px76 (by omega)
              | some r96 =>
                refine ur_nulS rfl ?_
                have k103 := k93 _ rfl
                have t104 := t95 _ rfl
                have ld105 := (pre8.un hO0 hO73 (hu65.tr hu73) (by decide)) x66.toInt r96 t104.1.1 t104.1.2 t104.2
                have w106 := wz_c (arR_u hO0 (hu65.tr hu73) (by decide)) t104.2
                have tw107 := wz_ok hO0 w106
                obtain ⟨g124, f109, f110, f111, f112, f113, f114, f115, f116, f117, o121, f118, f119, f120, hc108, k122, k123⟩ := hO73.word k103.2
                have t125 := fO_of (k := 1) hc108 rfl
                have tt126 : fO h73 r96 1 = fO h0 r96 1 := fO_wu hO0 (hu65.tr hu73) tw107 (k := 1) (by decide) (by decide)
                have t127 := fO_of (k := 2) hc108 rfl
                have tt128 : fO h73 r96 2 = fO h0 r96 2 := fO_wu hO0 (hu65.tr hu73) tw107 (k := 2) (by decide) (by decide)
                refine ur_ldA rfl rfl ?_
                refine ur_get rfl hc108 rfl ?_
                refine ur_ldI rfl rfl ?_
                have z129 := any_r f111
                have z130 := any_r a1
                refine ur_if2 rfl (fun c131 => ?_) (fun c131 => ?_)
                · have t132 := ne_to c131
                  refine ur_incV (fun z => [some (.inr (.inr (some 0))), some (.inl a1), some (.inl a2), some (.inl a3), some (.inr (.inr (some r21))), some (.inl z), some (.inr (.inr (some r96)))]) rfl rfl (fun _ => rfl) (fun x133 e134 => ?_)
                  have t135 := ti_add e134 (by omega) (by omega)
                  refine ur_go rfl ?_
                  have t136 := fO_of (k := 4) (hu73.ko (n := 5) (hv65.ko (n := 5) hc1 rfl (wid_f (by decide)) (by decide)) rfl (wid_f (by decide)) (by decide)) rfl
                  have z137 := any_r x133
                  exact ih70 x133 _ _ hO73 hu73 (by omega) (RCq.s px74 (fun q q0 q1 => ⟨fun r => by have k := (RWF.iff w106).mp r; omega, fun _ => rfl⟩) (by omega) (by omega)) px75 px76 (by omega)
                · have t138 := ne_no c131
                  refine ur_ldA rfl rfl ?_
                  refine ur_get rfl hc108 rfl ?_
                  refine ur_push rfl ?_
                  refine ur_if2 rfl (fun c139 => ?_) (fun c139 => ?_)
                  · have t140 := eq_to c139
                    refine ur_incV (fun z => [some (.inr (.inr (some 0))), some (.inl a1), some (.inl a2), some (.inl a3), some (.inr (.inr (some r21))), some (.inl z), some (.inr (.inr (some r96)))]) rfl rfl (fun _ => rfl) (fun x141 e142 => ?_)
                    have t143 := ti_add e142 (by omega) (by omega)
                    refine ur_go rfl ?_
                    have t144 := fO_of (k := 4) (hu73.ko (n := 5) (hv65.ko (n := 5) hc1 rfl (wid_f (by decide)) (by decide)) rfl (wid_f (by decide)) (by decide)) rfl
                    have z145 := any_r x141
                    exact ih70 x141 _ _ hO73 hu73 (by omega) (RCq.s px74 (fun q q0 q1 => ⟨fun r => by have k := (RWF.iff w106).mp r; omega, fun _ => rfl⟩) (by omega) (by omega)) px75 px76 (by omega)
                  · have t146 := eq_no c139
                    have mv147 := (pre7.un hO0 hO73 (hu65.tr hu73) (by decide)) x66.toInt r96 r96 t104.1.1 t104.1.2 t104.2 ((pre10.un hO0 hO73 (hu65.tr hu73) (by decide)) x66.toInt r96 t104.1.1 t104.1.2 t104.2 (by omega))
                    refine ur_ldA rfl rfl ?_
                    refine ur_get rfl (hu73.ko (n := 8) (hv65.ko (n := 8) hc13 rfl (wid_f (by decide)) (by decide)) rfl (wid_f (by decide)) (by decide)) rfl ?_
                    refine ur_ldA rfl rfl ?_
                    refine ur_ldA rfl rfl ?_
                    refine ur_inl rfl (rcv_of (hu73.ko (n := 15) (hv65.ko (n := 15) hc58 rfl (wid_f (by decide)) (by decide)) rfl (wid_f (by decide)) (by decide))) (Nat.le_of_ble_eq_true rfl) (Nat.le_of_ble_eq_true rfl) (sd_X7_countMovesOf hO73 g124 k103.2 g54 (hu73.tm (hu65.tm k23.2 (by decide)) (by decide)) ((pre2.un hO0 hO65 hv65 (by decide)).un hO65 hO73 hu73 (by decide)) px76 (cz_un hO0 hO73 (hu65.tr hu73) t24 (by decide) (by decide)) ((txC_un hO0 hO73 (hu65.tr hu73) (by decide) 9 (by decide)).trans pre3) pre4 ((txC_un hO0 hO73 (hu65.tr hu73) (by decide) 11 (by decide)).trans pre5) pre6 ld105 mv147 px75 (fun m m0 m1 => by have q := RCq.r px74 (by omega) m0 m1; omega) (fun w148 h153 hr149 hO153 hv153 hp150 hp151 hp152 => ?_))
                    have hu153 := hv153
                    subst hr149
                    show uRun _ (uCall Mt _) _ 101 (_, [], _, _, _)
                    refine ur_incV (fun z => [some (.inr (.inr (some 0))), some (.inl a1), some (.inl a2), some (.inl a3), some (.inr (.inr (some r21))), some (.inl z), some (.inr (.inr (some r96)))]) rfl rfl (fun _ => rfl) (fun x154 e155 => ?_)
                    have t156 := ti_add e155 (by omega) (by omega)
                    refine ur_go rfl ?_
                    have t157 := fO_of (k := 4) (hv153.ko (n := 5) (hu73.ko (n := 5) (hv65.ko (n := 5) hc1 rfl (wid_f (by decide)) (by decide)) rfl (wid_f (by decide)) (by decide)) rfl (wid_f (by decide)) (by decide)) rfl
                    have t158 := fO_of (k := 1) (hv153.ko (n := 11) (hu73.ko (n := 11) (hv65.ko (n := 11) hc6 rfl (wid_f (by decide)) (by decide)) rfl (wid_f (by decide)) (by decide)) rfl (wid_f (by decide)) (by decide)) rfl
                    have z159 := any_r x154
                    exact ih70 x154 _ _ hO153 (hu73.tr hu153) (by omega) (RCq.s px74 (fun q q0 q1 => ⟨fun r => (hp151 q q0 q1).1 ((FXk.un hO0 (hu65.tr hu73) tw107 ⟨g54, k23.2⟩ (by decide)).mpr ((RWF.iff w106).mp r).2.2), fun r => (hp151 q q0 q1).2 (fun k => r ((RWF.iff w106).mpr ⟨by omega, by omega, (FXk.un hO0 (hu65.tr hu73) tw107 ⟨g54, k23.2⟩ (by decide)).mp k⟩))⟩) (by omega) (by omega)) hp152 hp150 (by omega)
        exact L68 _ 0 (none) _ hO65 un.rf (by omega) (RCq.z hp64 (by omega)) ⟨(congrFun (gI_fk (a := 47) (kd := 0) (n := 242) hO0 hv65 (by decide) rfl (by decide) rfl (by decide) (by decide)) 0).trans pre9.1, (congrFun (gI_fk (a := 48) (kd := 0) (n := 242) hO0 hv65 (by decide) rfl (by decide) rfl (by decide) (by decide)) 0).trans pre9.2⟩ (pre1.uk hO0 hO65 hv65 (by decide)) (Nat.lt_succ_self _)
      · have t160 := wi_noL c32 l_0 l_1
        refine ur_push rfl ?_
        exact ur_ret rfl rfl (hQ _ _ ⟨_, rfl, ⟨fun _ => by omega, fun q => by exfalso; omega⟩⟩ hO0 un.rf pre1 pre9)

set_option maxRecDepth 20000 in
set_option maxHeartbeats 4000000 in
theorem se_X12_rightBy {d kc ks : Nat} {h0 : aH} {Q : Option aV → aH → Prop} {ls : List (List (Int × Int) × List (Int × Int))} {l1 : List (List (Int × Int) × List (Int × Int))} {M : Nat → List (List (Int × Int) × List (Int × Int))} (hO0 : OK h0) (hX0 : SX h0) (a1 : Int32) (a2 : Int32) (b2 : 0 ≤ a2.toInt ∧ a2.toInt ≤ 11) (a3 : Int32) (b3 : -400 ≤ a3.toInt ∧ a3.toInt ≤ 400) (pre0 : SKm h0) (pre1 : a2.toInt < fI h0 4) (pre2 : RLn h0 0 ls) (pre3 : ∀ l ∈ ls, lnG l) (pre4 : RXF h0 M) (pre5 : SLm h0) (pre6 : RLn h0 1 l1) (pre7 : ∀ l ∈ l1, lnG l) (pre8 : LDm h0) (hQ : ∀ r h', (∃ x : Int32, r = some (.inl x) ∧ (x.toInt = cq (RMF ls l1 h0 M a1.toInt a2.toInt a3.toInt) 0 (fI h0 38) ∧ 0 ≤ x.toInt ∧ x.toInt ≤ 150)) → OK h' → un [80, 81] h0 h' → (SKm h') → Q r h') : uCall Mt (d + 9) 276 [(.inr (.inr (some 69))), (.inl a1), (.inl a2), (.inl a3)] h0 kc ks Q := by
  have l_0 : ((0) : Int32).toInt = 0 := by decide
  have l_1 : ((1) : Int32).toInt = 1 := by decide
  have l_3 : ((3) : Int32).toInt = 3 := by decide
  have l_60 : ((60) : Int32).toInt = 60 := by decide
  refine uc_ink [some (.inr (.inr (some 69))), some (.inl a1), some (.inl a2), some (.inl a3), none, none] mt_276 (Nat.le_of_ble_eq_true rfl) rfl ?_
  obtain ⟨fs1, hc2⟩ := hO0.mod
  obtain ⟨f3, p4, t5⟩ := mf_4 hO0 hc2
  have t6 := fI_of hc2 p4
  obtain ⟨f7, p8, t9⟩ := mf_38 hO0 hc2
  have t10 := fI_of hc2 p8
  refine ur_push rfl ?_
  refine ur_svIk [some (.inr (.inr (some 69))), some (.inl a1), some (.inl a2), some (.inl a3), some (.inl 0), none] rfl rfl ?_
  refine ur_push rfl ?_
  refine ur_svIk [some (.inr (.inr (some 69))), some (.inl a1), some (.inl a2), some (.inl a3), some (.inl 0), some (.inl 0)] rfl rfl ?_
  have L13 : ∀ (m14 : Nat) (x11 : Int32) (x12 : Int32) (h16 : aH) , OK h16 → un [80, 81] h0 h16 → ((0 ≤ x12.toInt ∧ x12.toInt ≤ 150) ∧ (0 ≤ x11.toInt ∧ x11.toInt ≤ 150) ∧ x12.toInt ≤ fI h0 38 ∧ x11.toInt ≤ x12.toInt) → (x11.toInt = cq (RMF ls l1 h0 M a1.toInt a2.toInt a3.toInt) 0 x12.toInt) → (SKm h16) → ((151 - x12.toInt).toNat) < m14 → uRun oX12_rightBy (uCall Mt (d + 8)) Q 6 ([some (.inr (.inr (some 69))), some (.inl a1), some (.inl a2), some (.inl a3), some (.inl x11), some (.inl x12)], [], h16, kc, ks) := by
    intro m14
    induction m14 with
    | zero => intro x11 x12 h16 hO16 hu16 iv19 px17 px18 mm20; omega
    | succ m14 ih15 =>
      intro x11 x12 h16 hO16 hu16 iv19 px17 px18 mm20
      refine ur_ldI rfl rfl ?_
      refine ur_ldA rfl rfl ?_
      obtain ⟨fs21, hc22⟩ := hO16.mod
      obtain ⟨f23, p24, t25⟩ := mf_38 hO16 hc22
      have t26 := fI_of hc22 p24
      have t27 := fI_keep (k := 4) hO0 hO16 hu16 rfl (by decide)
      have t28 := fI_keep (k := 38) hO0 hO16 hu16 rfl (by decide)
      refine ur_get rfl hc22 p24 ?_
      have z29 := any_r x12
      have z30 := any_r f23
      refine ur_if2 rfl (fun c31 => ?_) (fun c31 => ?_)
      · have t32 := le_to c31
        refine ur_ldI rfl rfl ?_
        obtain ⟨f33, p34, t35⟩ := mf_4 hO16 hc22
        have t36 := fI_of hc22 p34
        exact ur_ret rfl rfl (hQ _ _ ⟨_, rfl, ⟨(by have q := px17; rw [show x12.toInt = fI h0 38 by omega] at q; exact q), by omega⟩⟩ hO16 hu16 px18)
      · have t37 := le_no c31
        refine ur_ldI rfl rfl ?_
        refine ur_ldA rfl rfl ?_
        refine ur_get rfl hc22 (mf_39 hO16 hc22) ?_
        refine ur_ldI rfl rfl ?_
        obtain ⟨xs39, hc38, hn40, he41⟩ := hO16.int (hO16.fix 96 (by decide) rfl)
        refine ur_aldV rfl hc38 hn40 (by omega) (fun x42 hx43 => ?_)
        have t44 := gI_of (j := x12) hc38 hx43
        have t45 := gI_keep (a := 96) (kd := 0) (n := 150) hO0 hu16 (x12 : Int32).toInt (by decide) rfl (by decide) rfl (by decide) (by decide)
        have t46 : 0 ≤ x42.toInt ∧ x42.toInt ≤ 7 := he41 _ _ hx43
        refine ur_push rfl ?_
        refine ur_if2 rfl (fun c47 => ?_) (fun c47 => ?_)
        · have t48 := eq_to c47
          refine ur_push rfl ?_
          refine ur_binV rfl (fun x49 e50 => ?_)
          have z51 := any_r x11
          have t52 := ti_add e50 (by omega) (by omega)
          refine ur_svIk [some (.inr (.inr (some 69))), some (.inl a1), some (.inl a2), some (.inl a3), some (.inl x49), some (.inl x12)] rfl rfl ?_
          refine ur_incV (fun z => [some (.inr (.inr (some 69))), some (.inl a1), some (.inl a2), some (.inl a3), some (.inl x49), some (.inl z)]) rfl rfl (fun _ => rfl) (fun x53 e54 => ?_)
          have t55 := ti_add e54 (by omega) (by omega)
          refine ur_go rfl ?_
          obtain ⟨f56, p57, t58⟩ := mf_4 hO16 hc22
          have t59 := fI_of hc22 p57
          have z60 := any_r x49
          have z61 := any_r x53
          exact ih15 x49 x53 _ hO16 hu16 (by omega) (by rw [cq_n (by omega) (fun k => by have k0 := k.1; have k1 := k.2.1; omega) (show _ = x12.toInt + 1 by omega), ← px17]; omega) px18 (by omega)
        · have t62 := eq_no c47
          refine ur_ldA rfl rfl ?_
          refine ur_get rfl hc22 (mf_40 hO16 hc22) ?_
          refine ur_ldI rfl rfl ?_
          obtain ⟨xs64, hc63, hn65, he66⟩ := hO16.int (hO16.fix 97 (by decide) rfl)
          refine ur_aldV rfl hc63 hn65 (by omega) (fun x67 hx68 => ?_)
          have t69 := gI_of (j := x12) hc63 hx68
          have t70 := gI_keep (a := 97) (kd := 0) (n := 150) hO0 hu16 (x12 : Int32).toInt (by decide) rfl (by decide) rfl (by decide) (by decide)
          have t71 : 0 ≤ x67.toInt ∧ x67.toInt ≤ 8 := he66 _ _ hx68
          refine ur_ldI rfl rfl ?_
          have z72 := any_r x67
          have z73 := any_r a1
          refine ur_if2 rfl (fun c74 => ?_) (fun c74 => ?_)
          · have t75 := ne_to c74
            refine ur_push rfl ?_
            refine ur_binV rfl (fun x76 e77 => ?_)
            have z78 := any_r x11
            have t79 := ti_add e77 (by omega) (by omega)
            refine ur_svIk [some (.inr (.inr (some 69))), some (.inl a1), some (.inl a2), some (.inl a3), some (.inl x76), some (.inl x12)] rfl rfl ?_
            refine ur_incV (fun z => [some (.inr (.inr (some 69))), some (.inl a1), some (.inl a2), some (.inl a3), some (.inl x76), some (.inl z)]) rfl rfl (fun _ => rfl) (fun x80 e81 => ?_)
            have t82 := ti_add e81 (by omega) (by omega)
            refine ur_go rfl ?_
            obtain ⟨f83, p84, t85⟩ := mf_4 hO16 hc22
            have t86 := fI_of hc22 p84
            have z87 := any_r x76
            have z88 := any_r x80
            exact ih15 x76 x80 _ hO16 hu16 (by omega) (by rw [cq_n (by omega) (fun k => by have k0 := k.1; have k1 := k.2.1; omega) (show _ = x12.toInt + 1 by omega), ← px17]; omega) px18 (by omega)
          · have t89 := ne_no c74
            refine ur_ldA rfl rfl ?_
            refine ur_ldI rfl rfl ?_
            refine ur_ldI rfl rfl ?_
            refine ur_ldI rfl rfl ?_
            obtain ⟨f90, p91, t92⟩ := mf_4 hO16 hc22
            have t93 := fI_of hc22 p91
            refine ur_inl rfl (rcv_of hc22) (Nat.le_of_ble_eq_true rfl) (Nat.le_of_ble_eq_true rfl) (se_X12_whoseBy hO16 (hX0.un hO0 hO16 hu16 (by decide)) _ (by show 0 ≤ x12.toInt ∧ x12.toInt ≤ 149; omega) _ (by show 0 ≤ a2.toInt ∧ a2.toInt ≤ 11; omega) _ (by show -400 ≤ a3.toInt ∧ a3.toInt ≤ 400; omega) px18 (by omega) (by omega) (pre2.keep (KN.un hO0 hu16 (by decide) (by decide) (by decide) (by decide) (by decide)) (by decide)) pre3 (rxf_uw pre4 hO0 hu16 (by decide)) (pre5.un hO0 hO16 hu16 (by decide) (by decide)) (pre6.keep (KN.un hO0 hu16 (by decide) (by decide) (by decide) (by decide) (by decide)) (by decide)) pre7 (pre8.un hO0 hO16 hu16 (by decide) (by decide)) (fun w94 h97 hr95 hO97 hv97 hp96 => ?_))
            have hu97 := hv97
            obtain ⟨x98, rfl, f99⟩ := hr95
            show uRun _ (uCall Mt _) _ 47 (_, [(.inl x98), (.inl x11)], _, _, _)
            refine ur_push rfl ?_
            refine ur_if2 rfl (fun c100 => ?_) (fun c100 => ?_)
            · have t101 := lt_to c100
              refine ur_push rfl ?_
              refine ur_binV rfl (fun x102 e103 => ?_)
              have z104 := any_r x11
              have t105 := ti_add e103 (by omega) (by omega)
              refine ur_svIk [some (.inr (.inr (some 69))), some (.inl a1), some (.inl a2), some (.inl a3), some (.inl x102), some (.inl x12)] rfl rfl ?_
              refine ur_incV (fun z => [some (.inr (.inr (some 69))), some (.inl a1), some (.inl a2), some (.inl a3), some (.inl x102), some (.inl z)]) rfl rfl (fun _ => rfl) (fun x106 e107 => ?_)
              have t108 := ti_add e107 (by omega) (by omega)
              refine ur_go rfl ?_
              obtain ⟨fs109, hc110⟩ := hO97.mod
              obtain ⟨f111, p112, t113⟩ := mf_4 hO97 hc110
              have t114 := fI_of hc110 p112
              obtain ⟨f115, p116, t117⟩ := mf_38 hO97 hc110
              have t118 := fI_of hc110 p116
              have z119 := any_r x102
              have z120 := any_r x106
              exact ih15 x102 x106 _ hO97 (hu16.tr hu97) (by omega) (by rw [cq_n (by omega) (fun k => k.2.2 (LRf.n (by have q := f99.1; rw [gI_keep (a := 73) (kd := 0) (n := 12) hO0 hu16 a2.toInt (by decide) rfl (by decide) rfl (by decide) (by decide), gI_keep (a := 72) (kd := 0) (n := 12) hO0 hu16 a2.toInt (by decide) rfl (by decide) rfl (by decide) (by decide), show NMh h16 (gI h0 73 a2.toInt) = NMh h0 (gI h0 73 a2.toInt) from nxM_un hO0 hO16 hu16 (by decide) (by decide) (by decide) _, FWm.e hO0 hu16 (rt_c (CEm_of hO0 hX0) (KWm.un hO0 hu16 (by decide)) (by omega) (by omega)) (by decide)] at q; exact q) (by omega))) (show _ = x12.toInt + 1 by omega), ← px17]; omega) hp96 (by omega)
            · have t121 := lt_no c100
              refine ur_push rfl ?_
              refine ur_go rfl ?_
              refine ur_binV rfl (fun x122 e123 => ?_)
              have z124 := any_r x11
              have t125 := ti_add e123 (by omega) (by omega)
              refine ur_svIk [some (.inr (.inr (some 69))), some (.inl a1), some (.inl a2), some (.inl a3), some (.inl x122), some (.inl x12)] rfl rfl ?_
              refine ur_incV (fun z => [some (.inr (.inr (some 69))), some (.inl a1), some (.inl a2), some (.inl a3), some (.inl x122), some (.inl z)]) rfl rfl (fun _ => rfl) (fun x126 e127 => ?_)
              have t128 := ti_add e127 (by omega) (by omega)
              refine ur_go rfl ?_
              obtain ⟨fs129, hc130⟩ := hO97.mod
              obtain ⟨f131, p132, t133⟩ := mf_4 hO97 hc130
              have t134 := fI_of hc130 p132
              obtain ⟨f135, p136, t137⟩ := mf_38 hO97 hc130
              have t138 := fI_of hc130 p136
              have z139 := any_r x122
              have z140 := any_r x126
              exact ih15 x122 x126 _ hO97 (hu16.tr hu97) (by omega) (by rw [cq_y (by omega) ⟨by omega, by omega, LRf.y (by have q := f99.1; rw [gI_keep (a := 73) (kd := 0) (n := 12) hO0 hu16 a2.toInt (by decide) rfl (by decide) rfl (by decide) (by decide), gI_keep (a := 72) (kd := 0) (n := 12) hO0 hu16 a2.toInt (by decide) rfl (by decide) rfl (by decide) (by decide), show NMh h16 (gI h0 73 a2.toInt) = NMh h0 (gI h0 73 a2.toInt) from nxM_un hO0 hO16 hu16 (by decide) (by decide) (by decide) _, FWm.e hO0 hu16 (rt_c (CEm_of hO0 hX0) (KWm.un hO0 hu16 (by decide)) (by omega) (by omega)) (by decide)] at q; exact q) (by omega) (fun j t t' j0 j1 r r' => retV_f r r' ⟨j0, j1⟩)⟩ (show _ = x12.toInt + 1 by omega), ← px17]; omega) hp96 (by omega)
  exact L13 _ 0 0 _ hO0 un.rf (by omega) (by rw [l_0]; exact (cq_z (Int.le_refl 0)).symm) pre0 (Nat.lt_succ_self _)

set_option maxRecDepth 20000 in
set_option maxHeartbeats 4000000 in
theorem se_X12_right {d kc ks : Nat} {h0 : aH} {Q : Option aV → aH → Prop} {ls : List (List (Int × Int) × List (Int × Int))} {l1 : List (List (Int × Int) × List (Int × Int))} {M : Nat → List (List (Int × Int) × List (Int × Int))} (hO0 : OK h0) (hX0 : SX h0) (a1 : Int32) (a2 : Int32) (a3 : Int32) (pre0 : SKm h0) (pre1 : RLn h0 0 ls) (pre2 : ∀ l ∈ ls, lnG l) (pre3 : RXF h0 M) (pre4 : SLm h0) (pre5 : RLn h0 1 l1) (pre6 : ∀ l ∈ l1, lnG l) (pre7 : LDm h0) (hQ : ∀ r h', (∃ x : Int32, r = some (.inl x) ∧ ((¬ ((0 ≤ a2.toInt ∧ a2.toInt < fI h0 4) ∧ (0 ≤ a1.toInt ∧ a1.toInt ≤ 8) ∧ (0 ≤ a3.toInt ∧ a3.toInt ≤ 1)) → x.toInt = -2000000000) ∧ (((0 ≤ a2.toInt ∧ a2.toInt < fI h0 4) ∧ (0 ≤ a1.toInt ∧ a1.toInt ≤ 8) ∧ (0 ≤ a3.toInt ∧ a3.toInt ≤ 1)) → ∃ b, BSm (fun mv => cq (RMF ls l1 h0 M a1.toInt a2.toInt mv) 0 (fI h0 38)) (DMc 81) b ∧ (a3.toInt = 0 → x.toInt = b) ∧ (a3.toInt ≠ 0 → x.toInt = (fun mv => cq (RMF ls l1 h0 M a1.toInt a2.toInt mv) 0 (fI h0 38)) b)))) → OK h' → un [80, 81] h0 h' → (SKm h') → Q r h') : uCall Mt (d + 10) 277 [(.inr (.inr (some 69))), (.inl a1), (.inl a2), (.inl a3)] h0 kc ks Q := by
  have l_m2000000000 : ((-2000000000) : Int32).toInt = -2000000000 := by decide
  have l_m1 : ((-1) : Int32).toInt = -1 := by decide
  have l_0 : ((0) : Int32).toInt = 0 := by decide
  have l_1 : ((1) : Int32).toInt = 1 := by decide
  have l_2 : ((2) : Int32).toInt = 2 := by decide
  have l_8 : ((8) : Int32).toInt = 8 := by decide
  have l_10 : ((10) : Int32).toInt = 10 := by decide
  have l_400 : ((400) : Int32).toInt = 400 := by decide
  refine uc_ink [some (.inr (.inr (some 69))), some (.inl a1), some (.inl a2), some (.inl a3), none, none, none, none, none] mt_277 (Nat.le_of_ble_eq_true rfl) rfl ?_
  obtain ⟨fs1, hc2⟩ := hO0.mod
  obtain ⟨f3, p4, t5⟩ := mf_4 hO0 hc2
  have t6 := fI_of hc2 p4
  obtain ⟨f7, p8, t9⟩ := mf_38 hO0 hc2
  have t10 := fI_of hc2 p8
  refine ur_ldI rfl rfl ?_
  refine ur_callv rfl rfl (Nat.le_of_ble_eq_true rfl) (Nat.le_of_ble_eq_true rfl) rfl (sq_isPpl _ _) ?_
  refine ur_eqB rfl (fun c13 => ?_) (fun c13 => ?_)
  · have t14 := wi_noL c13 l_0 l_8
    refine ur_push rfl ?_
    exact ur_ret rfl rfl (hQ _ _ ⟨_, rfl, ⟨fun _ => by omega, fun q => by exfalso; omega⟩⟩ hO0 un.rf pre0)
  · have t15 := wi_toL c13 l_0 l_8
    refine ur_ldA rfl rfl ?_
    refine ur_ldI rfl rfl ?_
    refine ur_inl rfl (rcv_of hc2) (Nat.le_of_ble_eq_true rfl) (Nat.le_of_ble_eq_true rfl) (sd_X12_isComet hO0 _ (fun w16 hr17 => ?_))
    obtain ⟨b18, rfl, t19, t20⟩ := hr17
    show uRun _ (uCall Mt _) _ 12 (_, [(.inl (bi b18))], _, _, _)
    refine ur_eqB rfl (fun c21 => ?_) (fun c21 => ?_)
    · have t22 := t20 c21
      clear t19 t20
      refine ur_push rfl ?_
      exact ur_ret rfl rfl (hQ _ _ ⟨_, rfl, ⟨fun _ => by omega, fun q => by exfalso; omega⟩⟩ hO0 un.rf pre0)
    · have t23 := t19 c21
      clear t19 t20
      refine ur_ldI rfl rfl ?_
      refine ur_push rfl ?_
      refine ur_push rfl ?_
      refine ur_callv rfl rfl (Nat.le_of_ble_eq_true rfl) (Nat.le_of_ble_eq_true rfl) rfl (sp_in _ _ _ _ _) ?_
      refine ur_neB rfl (fun c26 => ?_) (fun c26 => ?_)
      · have t27 := wi_toL c26 l_0 l_1
        refine ur_push rfl ?_
        refine ur_svIk [some (.inr (.inr (some 69))), some (.inl a1), some (.inl a2), some (.inl a3), some (.inl 0), none, none, none, none] rfl rfl ?_
        refine ur_ldA rfl rfl ?_
        refine ur_ldI rfl rfl ?_
        refine ur_ldI rfl rfl ?_
        refine ur_push rfl ?_
        refine ur_inl rfl (rcv_of hc2) (Nat.le_of_ble_eq_true rfl) (Nat.le_of_ble_eq_true rfl) (se_X12_rightBy hO0 hX0 _ _ (by show 0 ≤ a2.toInt ∧ a2.toInt ≤ 11; omega) _ (by show -400 ≤ (0 : Int32).toInt ∧ (0 : Int32).toInt ≤ 400; omega) pre0 (by omega) pre1 pre2 pre3 pre4 pre5 pre6 pre7 (fun w28 h31 hr29 hO31 hv31 hp30 => ?_))
        have hu31 := hv31
        obtain ⟨x32, rfl, f33⟩ := hr29
        show uRun _ (uCall Mt _) _ 37 (_, [(.inl x32)], _, _, _)
        have gx34 : x32.toInt = (fun mv => cq (RMF ls l1 h0 M a1.toInt a2.toInt mv) 0 (fI h0 38)) 0 := by have q := f33.1; rw [l_0] at q; exact q
        refine ur_svIk [some (.inr (.inr (some 69))), some (.inl a1), some (.inl a2), some (.inl a3), some (.inl 0), some (.inl x32), none, none, none] rfl rfl ?_
        refine ur_push rfl ?_
        refine ur_svIk [some (.inr (.inr (some 69))), some (.inl a1), some (.inl a2), some (.inl a3), some (.inl 0), some (.inl x32), some (.inl 10), none, none] rfl rfl ?_
        obtain ⟨fs43, hc44⟩ := hO31.mod
        obtain ⟨f45, p46, t47⟩ := mf_4 hO31 hc44
        have t48 := fI_of hc44 p46
        obtain ⟨f49, p50, t51⟩ := mf_38 hO31 hc44
        have t52 := fI_of hc44 p50
        have L40 : ∀ (m41 : Nat) (x35 : Int32) (x36 : Int32) (x37 : Int32) (u38 : Option aV) (u39 : Option aV) (h53 : aH) , OK h53 → un [80, 81] h31 h53 → ((10 ≤ x37.toInt ∧ x37.toInt ≤ 410) ∧ x37.toInt % 10 = 0) → (BSm (fun mv => cq (RMF ls l1 h0 M a1.toInt a2.toInt mv) 0 (fI h0 38)) (DMr x37.toInt (-1)) x35.toInt) → (x36.toInt = (fun mv => cq (RMF ls l1 h0 M a1.toInt a2.toInt mv) 0 (fI h0 38)) x35.toInt) → (SKm h53) → ((500 - x37.toInt).toNat) < m41 → uRun oX12_right (uCall Mt (d + 9)) Q 43 ([some (.inr (.inr (some 69))), some (.inl a1), some (.inl a2), some (.inl a3), some (.inl x35), some (.inl x36), some (.inl x37), u38, u39], [], h53, kc, ks) := by
          intro m41
          induction m41 with
          | zero => intro x35 x36 x37 u38 u39 h53 hO53 hu53 iv57 px54 px55 px56 mm58; omega
          | succ m41 ih42 =>
            intro x35 x36 x37 u38 u39 h53 hO53 hu53 iv57 px54 px55 px56 mm58
            refine ur_ldI rfl rfl ?_
            refine ur_push rfl ?_
            refine ur_if2 rfl (fun c59 => ?_) (fun c59 => ?_)
            · have t60 := lt_to c59
              refine ur_ldI rfl rfl ?_
              refine ur_if1 rfl (fun c61 => ?_) (fun c61 => ?_)
              · have t62 := ne_to c61
                refine ur_ldI rfl rfl ?_
                obtain ⟨fs63, hc64⟩ := hO53.mod
                obtain ⟨f65, p66, t67⟩ := mf_4 hO53 hc64
                have t68 := fI_of hc64 p66
                obtain ⟨f69, p70, t71⟩ := mf_38 hO53 hc64
                have t72 := fI_of hc64 p70
                have t73 := fI_keep (k := 4) hO0 hO53 (hu31.tr hu53) rfl (by decide)
                have t74 := fI_keep (k := 38) hO0 hO53 (hu31.tr hu53) rfl (by decide)
                exact ur_ret rfl rfl (hQ _ _ ⟨_, rfl, ⟨fun q => absurd (by omega) q, fun _ => ⟨x35.toInt, px54.c (fun m => DMr.dc (by omega)), fun q => by exfalso; omega, fun _ => px55⟩⟩⟩ hO53 (hu31.tr hu53) px56)
              · have t75 := ne_no c61
                refine ur_ldI rfl rfl ?_
                refine ur_go rfl ?_
                obtain ⟨fs76, hc77⟩ := hO53.mod
                obtain ⟨f78, p79, t80⟩ := mf_4 hO53 hc77
                have t81 := fI_of hc77 p79
                obtain ⟨f82, p83, t84⟩ := mf_38 hO53 hc77
                have t85 := fI_of hc77 p83
                have t86 := fI_keep (k := 4) hO0 hO53 (hu31.tr hu53) rfl (by decide)
                have t87 := fI_keep (k := 38) hO0 hO53 (hu31.tr hu53) rfl (by decide)
                exact ur_ret rfl rfl (hQ _ _ ⟨_, rfl, ⟨fun q => absurd (by omega) q, fun _ => ⟨x35.toInt, px54.c (fun m => DMr.dc (by omega)), fun _ => rfl, fun q => by exfalso; omega⟩⟩⟩ hO53 (hu31.tr hu53) px56)
            · have t88 := lt_no c59
              refine ur_push rfl ?_
              refine ur_svIk [some (.inr (.inr (some 69))), some (.inl a1), some (.inl a2), some (.inl a3), some (.inl x35), some (.inl x36), some (.inl x37), some (.inl (-1)), u39] rfl rfl ?_
              obtain ⟨fs96, hc97⟩ := hO53.mod
              obtain ⟨f98, p99, t100⟩ := mf_4 hO53 hc97
              have t101 := fI_of hc97 p99
              obtain ⟨f102, p103, t104⟩ := mf_38 hO53 hc97
              have t105 := fI_of hc97 p103
              have L93 : ∀ (m94 : Nat) (x89 : Int32) (x90 : Int32) (x91 : Int32) (u92 : Option aV) (h106 : aH) , OK h106 → un [80, 81] h53 h106 → ((-1 ≤ x91.toInt ∧ x91.toInt ≤ 3) ∧ (x91.toInt = -1 ∨ x91.toInt = 1 ∨ x91.toInt = 3)) → (BSm (fun mv => cq (RMF ls l1 h0 M a1.toInt a2.toInt mv) 0 (fI h0 38)) (DMr x37.toInt x91.toInt) x89.toInt) → (x90.toInt = (fun mv => cq (RMF ls l1 h0 M a1.toInt a2.toInt mv) 0 (fI h0 38)) x89.toInt) → (SKm h106) → ((4 - x91.toInt).toNat) < m94 → uRun oX12_right (uCall Mt (d + 9)) Q 54 ([some (.inr (.inr (some 69))), some (.inl a1), some (.inl a2), some (.inl a3), some (.inl x89), some (.inl x90), some (.inl x37), some (.inl x91), u92], [], h106, kc, ks) := by
                intro m94
                induction m94 with
                | zero => intro x89 x90 x91 u92 h106 hO106 hu106 iv110 px107 px108 px109 mm111; omega
                | succ m94 ih95 =>
                  intro x89 x90 x91 u92 h106 hO106 hu106 iv110 px107 px108 px109 mm111
                  refine ur_ldI rfl rfl ?_
                  refine ur_push rfl ?_
                  refine ur_if2 rfl (fun c112 => ?_) (fun c112 => ?_)
                  · have t113 := lt_to c112
                    refine ur_incV (fun z => [some (.inr (.inr (some 69))), some (.inl a1), some (.inl a2), some (.inl a3), some (.inl x89), some (.inl x90), some (.inl z), some (.inl x91), u92]) rfl rfl (fun _ => rfl) (fun x114 e115 => ?_)
                    have z116 := any_r x37
                    have t117 := ti_add e115 (by omega) (by omega)
                    refine ur_go rfl ?_
                    obtain ⟨fs118, hc119⟩ := hO106.mod
                    obtain ⟨f120, p121, t122⟩ := mf_4 hO106 hc119
                    have t123 := fI_of hc119 p121
                    obtain ⟨f124, p125, t126⟩ := mf_38 hO106 hc119
                    have t127 := fI_of hc119 p125
                    have z128 := any_r x114
                    exact ih42 x89 x90 x114 _ _ _ hO106 (hu53.tr hu106) (by omega) (px107.c (fun m => DMr.nx (by omega) (by omega) (by omega) (by omega))) px108 px109 (by omega)
                  · have t129 := lt_no c112
                    refine ur_ldA rfl rfl ?_
                    refine ur_ldI rfl rfl ?_
                    refine ur_ldI rfl rfl ?_
                    refine ur_ldI rfl rfl ?_
                    refine ur_ldI rfl rfl ?_
                    refine ur_binV rfl (fun x130 e131 => ?_)
                    have z132 := any_r x91
                    have z133 := any_r x37
                    have t134 := ti_mul1 e131 (by omega) (by omega)
                    have tt135 := mul_pm e131 (by omega)
                    obtain ⟨fs136, hc137⟩ := hO106.mod
                    obtain ⟨f138, p139, t140⟩ := mf_4 hO106 hc137
                    have t141 := fI_of hc137 p139
                    obtain ⟨f142, p143, t144⟩ := mf_38 hO106 hc137
                    have t145 := fI_of hc137 p143
                    have t146 := fI_keep (k := 4) hO0 hO106 (hu31.tr (hu53.tr hu106)) rfl (by decide)
                    have t147 := fI_keep (k := 38) hO0 hO106 (hu31.tr (hu53.tr hu106)) rfl (by decide)
                    refine ur_inl rfl (rcv_of hc137) (Nat.le_of_ble_eq_true rfl) (Nat.le_of_ble_eq_true rfl) (se_X12_rightBy hO106 (hX0.un hO0 hO106 (hu31.tr (hu53.tr hu106)) (by decide)) _ _ (by show 0 ≤ a2.toInt ∧ a2.toInt ≤ 11; omega) _ (by show -400 ≤ x130.toInt ∧ x130.toInt ≤ 400; omega) px109 (by omega) (pre1.keep (KN.un hO0 (hu31.tr (hu53.tr hu106)) (by decide) (by decide) (by decide) (by decide) (by decide)) (by decide)) pre2 (rxf_uw pre3 hO0 (hu31.tr (hu53.tr hu106)) (by decide)) (pre4.un hO0 hO106 (hu31.tr (hu53.tr hu106)) (by decide) (by decide)) (pre5.keep (KN.un hO0 (hu31.tr (hu53.tr hu106)) (by decide) (by decide) (by decide) (by decide) (by decide)) (by decide)) pre6 (pre7.un hO0 hO106 (hu31.tr (hu53.tr hu106)) (by decide) (by decide)) (fun w148 h151 hr149 hO151 hv151 hp150 => ?_))
                    have hu151 := hv151
                    obtain ⟨x152, rfl, f153⟩ := hr149
                    show uRun _ (uCall Mt _) _ 71 (_, [(.inl x152)], _, _, _)
                    have gx154 : x152.toInt = (fun mv => cq (RMF ls l1 h0 M a1.toInt a2.toInt mv) 0 (fI h0 38)) x130.toInt := by have q := f153.1; rw [show fI h106 38 = fI h0 38 by omega, RMF.un hO0 hO106 (hu31.tr (hu53.tr hu106)) (fun j j0 j1 => rt_c (CEm_of hO0 hX0) (KWm.un hO0 (hu31.tr (hu53.tr hu106)) (by decide)) j0 j1) (by decide)] at q; exact q
                    refine ur_svIk [some (.inr (.inr (some 69))), some (.inl a1), some (.inl a2), some (.inl a3), some (.inl x89), some (.inl x90), some (.inl x37), some (.inl x91), some (.inl x152)] rfl rfl ?_
                    refine ur_ldI rfl rfl ?_
                    refine ur_ldI rfl rfl ?_
                    have z155 := any_r x152
                    have z156 := any_r x90
                    refine ur_if2 rfl (fun c157 => ?_) (fun c157 => ?_)
                    · have t158 := lt_to c157
                      refine ur_ldI rfl rfl ?_
                      refine ur_ldI rfl rfl ?_
                      refine ur_binV rfl (fun x159 e160 => ?_)
                      have t161 := ti_mul1 e160 (by omega) (by omega)
                      have tt162 := mul_pm e160 (by omega)
                      refine ur_svIk [some (.inr (.inr (some 69))), some (.inl a1), some (.inl a2), some (.inl a3), some (.inl x159), some (.inl x90), some (.inl x37), some (.inl x91), some (.inl x152)] rfl rfl ?_
                      refine ur_ldI rfl rfl ?_
                      refine ur_svIk [some (.inr (.inr (some 69))), some (.inl a1), some (.inl a2), some (.inl a3), some (.inl x159), some (.inl x152), some (.inl x37), some (.inl x91), some (.inl x152)] rfl rfl ?_
                      refine ur_incV (fun z => [some (.inr (.inr (some 69))), some (.inl a1), some (.inl a2), some (.inl a3), some (.inl x159), some (.inl x152), some (.inl x37), some (.inl z), some (.inl x152)]) rfl rfl (fun _ => rfl) (fun x163 e164 => ?_)
                      have t165 := ti_add e164 (by omega) (by omega)
                      refine ur_go rfl ?_
                      obtain ⟨fs166, hc167⟩ := hO151.mod
                      obtain ⟨f168, p169, t170⟩ := mf_4 hO151 hc167
                      have t171 := fI_of hc167 p169
                      obtain ⟨f172, p173, t174⟩ := mf_38 hO151 hc167
                      have t175 := fI_of hc167 p173
                      have z176 := any_r x163
                      exact ih95 x159 x152 x163 _ _ hO151 (hu106.tr hu151) (by omega) (by have q := px107.n2 (i := x130.toInt) (fun m => DMr.st (g := x91.toInt) (g' := x163.toInt) (i := x130.toInt) (s := x37.toInt) (by omega) (by omega)) gx154 px108 (by omega); rw [show x159.toInt = x130.toInt by omega]; exact q) (by rw [show x159.toInt = x130.toInt by omega]; exact gx154) hp150 (by omega)
                    · have t177 := lt_no c157
                      refine ur_go rfl ?_
                      refine ur_incV (fun z => [some (.inr (.inr (some 69))), some (.inl a1), some (.inl a2), some (.inl a3), some (.inl x89), some (.inl x90), some (.inl x37), some (.inl z), some (.inl x152)]) rfl rfl (fun _ => rfl) (fun x178 e179 => ?_)
                      have t180 := ti_add e179 (by omega) (by omega)
                      refine ur_go rfl ?_
                      obtain ⟨fs181, hc182⟩ := hO151.mod
                      obtain ⟨f183, p184, t185⟩ := mf_4 hO151 hc182
                      have t186 := fI_of hc182 p184
                      obtain ⟨f187, p188, t189⟩ := mf_38 hO151 hc182
                      have t190 := fI_of hc182 p188
                      have z191 := any_r x178
                      exact ih95 x89 x90 x178 _ _ hO151 (hu106.tr hu151) (by omega) (px107.k2 (i := x130.toInt) (fun m => DMr.st (g := x91.toInt) (g' := x178.toInt) (i := x130.toInt) (s := x37.toInt) (by omega) (by omega)) gx154 px108 (by omega) (DMr.rk (i := x130.toInt) px107.1 (by omega) (by omega))) px108 hp150 (by omega)
              exact L93 _ x35 x36 (-1) (u39) _ hO53 un.rf (by omega) (by rw [l_m1]; exact px54) px55 px56 (Nat.lt_succ_self _)
        exact L40 _ 0 x32 10 (none) (none) _ hO31 un.rf (by omega) (DMr.z (by omega) (by omega)) (by rw [l_0]; exact gx34) hp30 (Nat.lt_succ_self _)
      · have t192 := wi_noL c26 l_0 l_1
        refine ur_push rfl ?_
        exact ur_ret rfl rfl (hQ _ _ ⟨_, rfl, ⟨fun _ => by omega, fun q => by exfalso; omega⟩⟩ hO0 un.rf pre0)
end SGA
