/-! SIGHT: what is remembered; printed by program but for its head -/
section SG3
theorem cf_un {W : List Nat} {h h' : aH} {z : Nat} {k : Int} (hO : OK h) (g : un W h h') (gz : 114 ≤ z) (t : tg h z = (102, 14)) (w : ∀ k ∈ [221, 21208, 21209, 21210], k ∉ W) : cf h' z k = cf h z k := by
  have f8 := fC_un hO g gz t (k := 8) (by decide) (w _ (by decide))
  have f9 := fC_un hO g gz t (k := 9) (by decide) (w _ (by decide))
  have f10 := fC_un hO g gz t (k := 10) (by decide) (w _ (by decide))
  obtain ⟨q, -, eq, gq, tq, -, -⟩ := cm_q hO t
  unfold cf
  rw [fO_eA f8, fO_eA f9, qP_e f10, eq, gI_e (arI_p hO g gq tq (w 221 (by decide)))]
theorem wid_v {q : Nat} (h : 114 ≤ q) : wid q (0, 9) = 223 := by
  unfold wid
  rw [if_neg (by omega)]
  rfl
theorem wid_sg {q : Nat} (h : 114 ≤ q) : wid q (4, 8712) = 222 := by
  unfold wid
  rw [if_neg (by omega)]
  rfl
section NSG
variable {d : Nat} {T : aTab} {Q : Option aV → aH → Prop} {pc : Nat} {al : aL} {st : List aV} {h : aH} {kc ks n i : Nat}
theorem ur_newSgE {W : List Nat} {a n1 : Nat} {fs : List aV} {ty : FieldType} (ho : aAt T pc = some (.inl (oNewJ n1))) (ho2 : aAt T n1 = some (.inl (oPut n 2 12 ty))) (hty : ∀ z : Nat, aFit ty (.inr (.inr (some z))) = true) (hO : OK h) (ha : h[a]? = some (.inl (2, fs))) (h12 : fs[12]? = some (.inr (.inr none))) (hw : 21212 ∈ W) (k : ∀ h' z, OK h' → un W h h' → h'[a]? = some (.inl (2, fs.set 12 (.inr (.inr (some z))))) → (114 ≤ z ∧ tg h' z = (4, 8712)) → z = h.length → h' = (h ++ [sgA]).set a (.inl (2, fs.set 12 (.inr (.inr (some h.length))))) → uRun T (uCall Mt d) Q n (al, st, h', kc, ks)) : uRun T (uCall Mt d) Q pc (al, .inl 8712 :: .inr (.inr (some a)) :: st, h, kc, ks) := by
  refine ur_newJ ho (by decide) (by decide) ?_
  rw [show (8712 : Int32).toNatClampNeg = 8712 by decide]
  have ha1 : (h ++ [sgA])[a]? = some (.inl (2, fs)) := by rw [List.getElem?_append_left (List.getElem?_eq_some_iff.mp ha).1]; exact ha
  obtain ⟨a1, a2, a3⟩ := sg_un (W := W) hO ha h12 hw
  exact ur_put (h := h ++ [sgA]) ho2 ha1 (List.getElem?_eq_some_iff.mp h12).1 (hty _) (k _ h.length a1 a2 (hs_eq ha1) ⟨hO.len, a3⟩ rfl rfl)
end NSG
/-! SIGHT: what the class remembers of who saw what -/
theorem bit_e {y : Int32} {z : Int64} (e : (1 : Int64) <<< (y.toInt64 &&& 63) = z) (h : 0 ≤ y.toInt ∧ y.toInt ≤ 63) : z.toBitVec = BitVec.twoPow 64 y.toInt.toNat := by
  have k : ∀ n : Nat, n < 64 → (Int32.ofNat n).toInt = (n : Int) ∧ ((1 : Int64) <<< ((Int32.ofNat n).toInt64 &&& 63)).toBitVec = BitVec.twoPow 64 n := by decide +kernel
  obtain ⟨k1, k2⟩ := k y.toInt.toNat (by omega)
  have ey : Int32.ofNat y.toInt.toNat = y := Int32.toInt_inj.mp (by rw [k1]; omega)
  rw [ey] at k2
  rw [← e]
  exact k2
def tb (x : Int64) (s : Int) : Prop := x.toBitVec.getLsbD s.toNat = true
theorem tb_0 {s : Int} : ¬ tb 0 s := fun h => by
  have h : (0#64).getLsbD s.toNat = true := h
  rw [BitVec.getLsbD_zero] at h
  exact absurd h (by decide)
theorem tb_or {x b : Int64} {s t : Int} (hb : b.toBitVec = BitVec.twoPow 64 s.toNat) (hs : 0 ≤ s ∧ s ≤ 63) (ht : 0 ≤ t ∧ t ≤ 63) : tb (x ||| b) t ↔ tb x t ∨ t = s := by
  unfold tb
  rw [Int64.toBitVec_or, BitVec.getLsbD_or, hb, BitVec.getLsbD_twoPow]
  simp only [Bool.or_eq_true, Bool.and_eq_true, decide_eq_true_eq]
  have e : (s.toNat < 64 ∧ s.toNat = t.toNat) ↔ t = s := by omega
  rw [e]
theorem tb_and {x b : Int64} {s : Int} (hb : b.toBitVec = BitVec.twoPow 64 s.toNat) (hs : 0 ≤ s ∧ s ≤ 63) : (x &&& b).toInt = 0 ↔ ¬ tb x s := by
  constructor
  · intro h t
    have e : x &&& b = 0 := Int64.toInt_inj.mp (by rw [h]; rfl)
    have g : (x &&& b).toBitVec.getLsbD s.toNat = true := by
      unfold tb at t
      rw [Int64.toBitVec_and, BitVec.getLsbD_and, hb, BitVec.getLsbD_twoPow, t]
      simp
      omega
    rw [e] at g
    exact tb_0 (s := s) g
  · intro t
    have e : x &&& b = 0 := Int64.toBitVec_inj.mp (BitVec.eq_of_getLsbD_eq (fun i hi => by
      rw [Int64.toBitVec_and, BitVec.getLsbD_and, hb, BitVec.getLsbD_twoPow]
      show _ = (0#64).getLsbD i
      rw [BitVec.getLsbD_zero]
      by_cases q : s.toNat = i
      · subst q
        have f : x.toBitVec.getLsbD s.toNat = false := by
          cases r : x.toBitVec.getLsbD s.toNat with
          | true => exact absurd r t
          | false => rfl
        rw [f]
        rfl
      · rw [decide_eq_false q, Bool.and_false, Bool.and_false]))
    rw [e]
    rfl
/-- the longs of a comet's sights -/
def sgv (h : aH) (z : Nat) (j : Int) : Int64 := match fA h z 12 with
  | some (Sum.inr (Sum.inr (some s))) => gL h s j
  | _ => 0
theorem sgv_s {h : aH} {z s : Nat} (e : fA h z 12 = some (.inr (.inr (some s)))) (j : Int) : sgv h z j = gL h s j := by
  unfold sgv
  rw [e]
theorem sgv_n {h : aH} {z : Nat} (e : fA h z 12 = some (.inr (.inr none))) (j : Int) : sgv h z j = 0 := by
  unfold sgv
  rw [e]
theorem sg_or {h : aH} {z : Nat} (hO : OK h) (t : tg h z = (102, 14)) : fA h z 12 = some (.inr (.inr none)) ∨ ∃ s, fA h z 12 = some (.inr (.inr (some s))) ∧ 114 ≤ s ∧ tg h s = (4, 8712) := by
  obtain ⟨gg, p, s, nd, rc, wy, b, pa, bo, f, l, q1, q2, sg, q3, c, k1, k2, k3, k4, k5⟩ := hO.comet t
  have e := fA_of (k := 12) c
  cases sg with
  | none => exact Or.inl e
  | some x => exact Or.inr ⟨x, e, k3 x rfl⟩
theorem vP_ok {h : aH} {z : Nat} (hO : OK h) (t : tg h z = (102, 14)) : ∃ q, fA h z 13 = some (.inr (.inr (some q))) ∧ rP h z 13 = q ∧ 114 ≤ q ∧ tg h q = (0, 9) := by
  obtain ⟨gg, p, s, nd, rc, wy, b, pa, bo, f, l, q1, q2, sg, q3, c, k1, k2, k3, k4, k5⟩ := hO.comet t
  have e := fA_of (k := 13) c
  exact ⟨q3, e, rP_of e, k4⟩
/-- the longs that count: of this version alone -/
def KBf (h : aH) (z : Nat) (q i : Int) : Int64 := @ite _ (gI h (rP h z 13) q = fO h 8 4) (Int.instDecidableEq _ _) (sgv h z (968 * q + i)) 0
theorem KBf_y {h : aH} {z : Nat} {q i : Int} (e : gI h (rP h z 13) q = fO h 8 4) : KBf h z q i = sgv h z (968 * q + i) := if_pos e
theorem KBf_n {h : aH} {z : Nat} {q i : Int} (e : gI h (rP h z 13) q ≠ fO h 8 4) : KBf h z q i = 0 := if_neg e
theorem KBf_e {h h' : aH} {z : Nat} {q i : Int} (e1 : gI h' (rP h' z 13) q = gI h (rP h z 13) q) (e2 : fO h' 8 4 = fO h 8 4) (e3 : sgv h' z (968 * q + i) = sgv h z (968 * q + i)) : KBf h' z q i = KBf h z q i := by
  by_cases p : gI h (rP h z 13) q = fO h 8 4
  · rw [KBf_y p, KBf_y (by rw [e1, e2]; exact p), e3]
  · rw [KBf_n p, KBf_n (by rw [e1, e2]; exact p)]
/-- where bit (k, e) stands -/
def bix (k e : Int) : Int := 8 * (k + 60) + (e + 120) / 64
def CAz (ls : List (List (Int × Int) × List (Int × Int))) (h : aH) (z : Nat) (X : Int → Int → Int → Prop) : Prop := ∀ p k e : Int, 0 ≤ p → p ≤ 8 → -60 ≤ k → k ≤ 60 → -120 ≤ e → e ≤ 120 → ¬ X p k e → (tb (KBf h z p (bix k e + 4)) ((e + 120) % 64) → tb (KBf h z p (bix k e)) ((e + 120) % 64)) ∧ (tb (KBf h z p (bix k e)) ((e + 120) % 64) → fO h z 8 ≤ k → k ≤ fO h z 9 → (tb (KBf h z p (bix k e + 4)) ((e + 120) % 64) ↔ tdV ls (fO h z 2) (fO h z 4) (fO h z 3) (fO h z 5) p e (cf h z k + e) ≠ 0))
def SGx (ls : List (List (Int × Int) × List (Int × Int))) (h : aH) (Y : Nat → Int → Int → Int → Prop) : Prop := (∀ (c : Int) (z : Nat), 0 ≤ c → c < fO h 1 4 → cz h c z → CDz h z ∧ (∀ q : Int, 0 ≤ q → q ≤ 8 → gI h (rP h z 13) q ≤ fO h 8 4) ∧ CAz ls h z (Y z)) ∧ ∀ (c d : Int) (y z : Nat), 0 ≤ c → c < fO h 1 4 → 0 ≤ d → d < fO h 1 4 → c ≠ d → cz h c y → cz h d z → y ≠ z ∧ rP h y 13 ≠ rP h z 13 ∧ ∀ s, fA h y 12 = some (.inr (.inr (some s))) → fA h z 12 ≠ some (.inr (.inr (some s)))
def SGn : Nat → Int → Int → Int → Prop := fun _ _ _ _ => False
def SGc (ls : List (List (Int × Int) × List (Int × Int))) (h : aH) : Prop := SGx ls h SGn
/-- the comets of both heaps are the same, but for what they remember of sights -/
def CMq (h h' : aH) : Prop := fO h' 1 4 = fO h 1 4 ∧ arR h' 4 = arR h 4 ∧ fO h' 8 4 = fO h 8 4 ∧ ∀ (c : Int) (z : Nat), 0 ≤ c → c < fO h 1 4 → cz h c z → (∀ k, k < 14 → k ≠ 12 → fA h' z k = fA h z k) ∧ (CDz h z → CDz h' z) ∧ ∀ k, cf h' z k = cf h z k
theorem CMq.rf {h : aH} : CMq h h := ⟨rfl, rfl, rfl, fun _ _ _ _ _ => ⟨fun _ _ _ => rfl, id, fun _ => rfl⟩⟩
theorem CMq.tr {a b c : aH} (g : CMq a b) (k : CMq b c) : CMq a c := by
  obtain ⟨a1, a2, a3, a4⟩ := g
  obtain ⟨b1, b2, b3, b4⟩ := k
  refine ⟨b1.trans a1, b2.trans a2, b3.trans a3, fun x z h0 h1 w => ?_⟩
  obtain ⟨e1, e2, e3⟩ := a4 x z h0 h1 w
  obtain ⟨f1, f2, f3⟩ := b4 x z h0 (by omega) (cz_c a2.symm w)
  exact ⟨fun k hk n => (f1 k hk n).trans (e1 k hk n), fun d => f2 (e2 d), fun k => (f3 k).trans (e3 k)⟩
theorem cf_j {h h' : aH} {z : Nat} {k : Int} (e8 : fA h' z 8 = fA h z 8) (e9 : fA h' z 9 = fA h z 9) (e10 : fA h' z 10 = fA h z 10) (a : arI h' (qP h z) = arI h (qP h z)) : cf h' z k = cf h z k := by
  unfold cf
  rw [fO_eA e8, fO_eA e9, qP_e e10, gI_e a]
theorem CMq.un {W : List Nat} {h h' : aH} (hO : OK h) (g : un W h h') (w : ∀ k ∈ [200, 221, 4, 21200, 21201, 21202, 21203, 21204, 21205, 21206, 21207, 21208, 21209, 21210, 21211, 21213], k ∉ W) (e1 : fO h' 1 4 = fO h 1 4) (e8 : fO h' 8 4 = fO h 8 4) : CMq h h' := by
  refine ⟨e1, arR_u4 hO g (w 4 (by decide)), e8, fun c z h0 h1 wz => ?_⟩
  have t := cz_ok hO wz
  have k : ∀ k, k < 14 → k ≠ 12 → fA h' z k = fA h z k := fun k hk n => fC_un hO g t.1 t.2 hk (by
    rcases (show k = 0 ∨ k = 1 ∨ k = 2 ∨ k = 3 ∨ k = 4 ∨ k = 5 ∨ k = 6 ∨ k = 7 ∨ k = 8 ∨ k = 9 ∨ k = 10 ∨ k = 11 ∨ k = 13 by omega) with q | q | q | q | q | q | q | q | q | q | q | q | q <;> (subst q; exact w _ (by decide)))
  refine ⟨k, fun d => d.un hO g t.1 t.2 (fun q hq => w q (by revert hq; revert q; decide)) (w 200 (by decide)), fun j => ?_⟩
  obtain ⟨q, -, eq, gq, tq, -, -⟩ := cm_q hO t.2
  exact cf_j (k 8 (by decide) (by decide)) (k 9 (by decide) (by decide)) (k 10 (by decide) (by decide)) (by rw [eq]; exact arI_p hO g gq tq (w 221 (by decide)))
/-- the general step: comets stay; for one of them what is remembered may change as told -/
theorem SGx.g {ls : List (List (Int × Int) × List (Int × Int))} {h h' : aH} {Y Y' : Nat → Int → Int → Int → Prop} (H : SGx ls h Y) (m : CMq h h') (hY : ∀ (c : Int) (z : Nat), 0 ≤ c → c < fO h 1 4 → cz h c z → (∀ q : Int, 0 ≤ q → q ≤ 8 → gI h' (rP h z 13) q ≤ fO h 8 4) ∧ (CAz ls h z (Y z) → CAz ls h' z (Y' z))) (hS : ∀ (c d : Int) (y z : Nat), 0 ≤ c → c < fO h 1 4 → 0 ≤ d → d < fO h 1 4 → c ≠ d → cz h c y → cz h d z → ∀ s, fA h' y 12 = some (.inr (.inr (some s))) → fA h' z 12 ≠ some (.inr (.inr (some s)))) : SGx ls h' Y' := by
  obtain ⟨a1, a2, a3, a4⟩ := m
  refine ⟨fun c z h0 h1 w => ?_, fun c d y z c0 c1 d0 d1 ne wy wz => ?_⟩
  · have w' := cz_c a2 w
    obtain ⟨b1, b2, b3⟩ := H.1 c z h0 (by omega) w'
    obtain ⟨e1, e2, e3⟩ := a4 c z h0 (by omega) w'
    obtain ⟨f1, f2⟩ := hY c z h0 (by omega) w'
    refine ⟨e2 b1, fun q q0 q1 => ?_, f2 b3⟩
    rw [rP_e (e1 13 (by decide) (by decide)), a3]
    exact f1 q q0 q1
  · have wy' := cz_c a2 wy
    have wz' := cz_c a2 wz
    obtain ⟨b1, b2, -⟩ := H.2 c d y z c0 (by omega) d0 (by omega) ne wy' wz'
    refine ⟨b1, ?_, hS c d y z c0 (by omega) d0 (by omega) ne wy' wz'⟩
    rw [rP_e ((a4 c y c0 (by omega) wy').1 13 (by decide) (by decide)), rP_e ((a4 d z d0 (by omega) wz').1 13 (by decide) (by decide))]
    exact b2
theorem CAz.e {ls : List (List (Int × Int) × List (Int × Int))} {h h' : aH} {z : Nat} {X X' : Int → Int → Int → Prop} (H : CAz ls h z X) (k : ∀ j, j < 14 → j ≠ 12 → fA h' z j = fA h z j) (c : ∀ j, cf h' z j = cf h z j) (hX : ∀ p k e, 0 ≤ p → p ≤ 8 → -60 ≤ k → k ≤ 60 → -120 ≤ e → e ≤ 120 → ¬ X' p k e → ¬ X p k e ∧ (tb (KBf h' z p (bix k e)) ((e + 120) % 64) ↔ tb (KBf h z p (bix k e)) ((e + 120) % 64)) ∧ (tb (KBf h' z p (bix k e + 4)) ((e + 120) % 64) ↔ tb (KBf h z p (bix k e + 4)) ((e + 120) % 64))) : CAz ls h' z X' := fun p j e p0 p1 k0 k1 e0 e1 x => by
  obtain ⟨y, e2, e3⟩ := hX p j e p0 p1 k0 k1 e0 e1 x
  have g := H p j e p0 p1 k0 k1 e0 e1 y
  rw [e2, e3, fO_eA (k 2 (by decide) (by decide)), fO_eA (k 3 (by decide) (by decide)), fO_eA (k 4 (by decide) (by decide)), fO_eA (k 5 (by decide) (by decide)), fO_eA (k 8 (by decide) (by decide)), fO_eA (k 9 (by decide) (by decide)), c]
  exact g
theorem CAz.kb {ls : List (List (Int × Int) × List (Int × Int))} {h h' : aH} {z : Nat} {X : Int → Int → Int → Prop} (H : CAz ls h z X) (k : ∀ j, j < 14 → j ≠ 12 → fA h' z j = fA h z j) (c : ∀ j, cf h' z j = cf h z j) (hX : ∀ p i, 0 ≤ p → p ≤ 8 → 0 ≤ i → i < 968 → KBf h' z p i = KBf h z p i) : CAz ls h' z X := H.e k c (fun p k e p0 p1 k0 k1 e0 e1 x => by
  have b : 0 ≤ bix k e ∧ bix k e + 4 < 968 := by
    unfold bix
    omega
  rw [hX p _ p0 p1 b.1 (by omega), hX p _ p0 p1 (by omega) b.2]
  exact ⟨x, Iff.rfl, Iff.rfl⟩)
/-- nothing of comets changes -/
theorem SGx.un {ls : List (List (Int × Int) × List (Int × Int))} {W : List Nat} {h h' : aH} {Y : Nat → Int → Int → Int → Prop} (H : SGx ls h Y) (hO : OK h) (g : un W h h') (w : ∀ k ∈ [200, 221, 222, 223, 4, 21200, 21201, 21202, 21203, 21204, 21205, 21206, 21207, 21208, 21209, 21210, 21211, 21212, 21213], k ∉ W) (e1 : fO h' 1 4 = fO h 1 4) (e8 : fO h' 8 4 = fO h 8 4) : SGx ls h' Y := by
  have m := CMq.un hO g (fun k hk => w k (by revert hk; revert k; decide)) e1 e8
  have f12 : ∀ (c : Int) (z : Nat), cz h c z → fA h' z 12 = fA h z 12 := fun c z wz => by
    have t := cz_ok hO wz
    exact fC_un hO g t.1 t.2 (by decide) (w _ (by decide))
  have vg : ∀ (c : Int) (z : Nat), cz h c z → ∀ q, gI h' (rP h z 13) q = gI h (rP h z 13) q := fun c z wz q => by
    have t := cz_ok hO wz
    obtain ⟨v, -, ev, gv, tv⟩ := vP_ok hO t.2
    obtain ⟨xs, hc, hn, he⟩ := hO.int tv
    rw [ev]
    refine gI_e ?_ q
    rw [arI_of hc, arI_of (g.ka (n := 9) hc hn (scA_d gv) (by decide) (wid_v gv) (w 223 (by decide)))]
  refine H.g m (fun c z h0 h1 wz => ⟨fun q q0 q1 => ?_, fun A => ?_⟩) (fun c d y z c0 c1 d0 d1 ne wy wz s => ?_)
  · rw [vg c z wz]
    exact (H.1 c z h0 h1 wz).2.1 q q0 q1
  · obtain ⟨k1, -, k3⟩ := m.2.2.2 c z h0 h1 wz
    refine A.kb k1 k3 (fun p i _ _ _ _ => KBf_e ?_ e8 ?_)
    · rw [rP_e (k1 13 (by decide) (by decide))]
      exact vg c z wz p
    · have t := cz_ok hO wz
      rcases sg_or hO t.2 with e | ⟨s, e, gs, ts⟩
      · rw [sgv_n e, sgv_n ((f12 c z wz).trans e)]
      · rw [sgv_s e, sgv_s ((f12 c z wz).trans e)]
        obtain ⟨xs, hc, hn⟩ := hO.lon ts
        refine gL_e ?_ _
        rw [arJ_of hc, arJ_of (g.ka (n := 8712) hc hn (scA_d gs) (by decide) (wid_sg gs) (w 222 (by decide)))]
  · rw [f12 c y wy, f12 d z wz]
    exact (H.2 c d y z c0 c1 d0 d1 ne wy wz).2.2 s
/-- sightsOf: what it leaves of a comet -/
def BSq (h h1 : aH) (a r : Nat) : Prop := (∀ j, sgv h1 a j = sgv h a j) ∧ fA h1 a 12 = some (.inr (.inr (some r))) ∧ (fA h a 12 = some (.inr (.inr (some r))) ∨ (fA h a 12 = some (.inr (.inr none)) ∧ r = h.length)) ∧ (∀ b, b < h.length → b ≠ a → h1[b]? = h[b]?) ∧ ∀ k, k < 14 → k ≠ 12 → fA h1 a k = fA h a k
theorem BSq.rf {h : aH} {a r : Nat} (e : fA h a 12 = some (.inr (.inr (some r)))) : BSq h h a r := ⟨fun _ => rfl, e, Or.inl e, fun _ _ _ => rfl, fun _ _ _ => rfl⟩
theorem BSq.new {h h1 : aH} {a r : Nat} {fs : List aV} (ha : h[a]? = some (.inl (2, fs))) (h12 : fs[12]? = some (.inr (.inr none))) (er : r = h.length) (e1 : h1 = (h ++ [sgA]).set a (.inl (2, fs.set 12 (.inr (.inr (some h.length)))))) : BSq h h1 a r := by
  subst er e1
  have hlt := (List.getElem?_eq_some_iff.mp ha).1
  have h12l := (List.getElem?_eq_some_iff.mp h12).1
  have e0 : fA h a 12 = some (.inr (.inr none)) := (fA_of ha).trans h12
  have ca : ((h ++ [sgA]).set a (.inl (2, fs.set 12 (.inr (.inr (some h.length))))))[a]? = some (.inl (2, fs.set 12 (.inr (.inr (some h.length))))) := List.getElem?_set_self (by rw [List.length_append]; omega)
  have e2 : fA ((h ++ [sgA]).set a (.inl (2, fs.set 12 (.inr (.inr (some h.length)))))) a 12 = some (.inr (.inr (some h.length))) := (fA_of ca).trans (List.getElem?_set_self h12l)
  refine ⟨fun j => ?_, e2, Or.inr ⟨e0, rfl⟩, fun b hb hne => ?_, fun k hk hne => ?_⟩
  · rw [sgv_n e0, sgv_s e2]
    unfold gL
    have cs : ((h ++ [sgA]).set a (.inl (2, fs.set 12 (.inr (.inr (some h.length))))))[h.length]? = some (.inr (4, .inr (.inl (List.replicate 8712 0)))) := by
      rw [List.getElem?_set_ne (by omega), List.getElem?_append_right (Nat.le_refl _), Nat.sub_self]
      rfl
    rw [arJ_of cs, List.getD_eq_getElem?_getD]
    by_cases q : j.toNat < 8712
    · rw [List.getElem?_replicate, if_pos q]
      rfl
    · rw [List.getElem?_replicate, if_neg q]
      rfl
  · rw [List.getElem?_set_ne (Ne.symm hne), List.getElem?_append_left hb]
  · rw [fA_of ca, fA_of ha, List.getElem?_set_ne (Ne.symm hne)]
/-- a stretch of longs is made 0 -/
def ZRq (h h' : aH) (r : Nat) (f i : Int) : Prop := (∀ b, b ≠ r → h'[b]? = h[b]?) ∧ (arJ h' r).length = (arJ h r).length ∧ ∀ j : Int, 0 ≤ j → (f ≤ j ∧ j < i → gL h' r j = 0) ∧ (¬ (f ≤ j ∧ j < i) → gL h' r j = gL h r j)
theorem ZRq.z {h : aH} {r : Nat} {f i : Int} (e : i = f) : ZRq h h r f i := ⟨fun _ _ => rfl, rfl, fun j _ => ⟨fun q => by omega, fun _ => rfl⟩⟩
theorem ZRq.s {h h1 h2 : aH} {r n : Nat} {f i i' : Int} {j x : Int32} {y : Int64} (H : ZRq h h1 r f i) (w : wJ h1 h2 r ((arJ h1 r).set j.toInt.toNat y)) (hy : y = 0) (hl : (arJ h1 r).length = n) (hj : 0 ≤ j.toInt ∧ j.toInt < (n : Int)) (ej : j.toInt = i) (ei : i' = i + 1) (hf : f ≤ i) : ZRq h h2 r f i' := by
  obtain ⟨a, l, b⟩ := H
  refine ⟨fun c hc => (w.2 c hc).trans (a c hc), by rw [w.1, List.length_set]; exact l, fun k k0 => ?_⟩
  have e : gL h2 r k = if k = j.toInt then 0 else gL h1 r k := by
    unfold gL
    rw [w.1, List.getD_eq_getElem?_getD, List.getD_eq_getElem?_getD]
    by_cases q : k = j.toInt
    · rw [if_pos q, q, List.getElem?_set_self (by omega), hy]
      rfl
    · rw [if_neg q, List.getElem?_set_ne (by omega)]
  obtain ⟨b1, b2⟩ := b k k0
  rw [e]
  refine ⟨fun q => ?_, fun q => ?_⟩
  · by_cases p : k = j.toInt
    · rw [if_pos p]
    · rw [if_neg p]
      exact b1 (by omega)
  · rw [if_neg (by omega)]
    exact b2 (by omega)
def SOF (h h' : aH) (a r : Nat) (p : Int) : Prop := (∀ q i : Int, 0 ≤ q → q ≤ 8 → 0 ≤ i → i < 968 → KBf h' a q i = KBf h a q i) ∧ gI h' (rP h a 13) p = fO h 8 4 ∧ fA h' a 12 = some (.inr (.inr (some r))) ∧ (∀ q, q ≠ p → 0 ≤ q → gI h' (rP h a 13) q = gI h (rP h a 13) q) ∧ (fA h a 12 = some (.inr (.inr (some r))) ∨ (fA h a 12 = some (.inr (.inr none)) ∧ r = h.length)) ∧ (∀ b, b < h.length → b ≠ a → b ≠ rP h a 13 → b ≠ r → h'[b]? = h[b]?) ∧ (∀ k, k < 14 → k ≠ 12 → fA h' a k = fA h a k)
theorem SOF.m {h h1 : aH} {a r : Nat} {p : Int} (hO : OK h) (t : 114 ≤ a ∧ tg h a = (102, 14)) (B : BSq h h1 a r) (e : gI h1 (rP h a 13) p = fO h 8 4) : SOF h h1 a r p := by
  obtain ⟨b1, b2, b3, b4, b5⟩ := B
  obtain ⟨v, ev, rv, gv, tv⟩ := vP_ok hO t.2
  have hl := hO.len
  have vlt : v < h.length := by
    by_cases q : v < h.length
    · exact q
    · unfold tg at tv
      rw [List.getElem?_eq_none (by omega)] at tv
      exact absurd (congrArg Prod.fst tv) (by decide)
  have vne : v ≠ a := fun q => by
    rw [q, t.2] at tv
    exact absurd (congrArg Prod.fst tv) (by decide)
  have e8 : fO h1 8 4 = fO h 8 4 := fO_c (b4 8 (by omega) (by omega)) 4
  have ev1 : ∀ q, gI h1 (rP h a 13) q = gI h (rP h a 13) q := fun q => by
    rw [rv]
    exact gI_e (arI_c (b4 v vlt vne)) q
  refine ⟨fun q i _ _ _ _ => KBf_e ?_ e8 (b1 _), e, b2, fun q _ _ => ev1 q, b3, fun b hb h1 _ _ => b4 b hb h1, b5⟩
  rw [rP_e (b5 13 (by decide) (by decide))]
  exact ev1 q
theorem SOF.z {h h1 h2 h3 : aH} {a r : Nat} {p : Int} {P V : Int32} (hO : OK h) (hO1 : OK h1) (t : 114 ≤ a ∧ tg h a = (102, 14)) (B : BSq h h1 a r) (w : wI h1 h2 (rP h a 13) ((arI h1 (rP h a 13)).set P.toInt.toNat V)) (Z : ZRq h2 h3 r (968 * p) (968 * (p + 1))) (eP : P.toInt = p) (eV : V.toInt = fO h 8 4) (hp : 0 ≤ p ∧ p ≤ 8) (ne : gI h1 (rP h a 13) p ≠ fO h 8 4) (gr : 114 ≤ r ∧ r ≠ a ∧ r ≠ rP h a 13) : SOF h h3 a r p := by
  obtain ⟨b1, b2, b3, b4, b5⟩ := B
  obtain ⟨z1, zl, z2⟩ := Z
  obtain ⟨v, ev, rv, gv, tv⟩ := vP_ok hO t.2
  have hl := hO.len
  have vlt : v < h.length := by
    by_cases q : v < h.length
    · exact q
    · unfold tg at tv
      rw [List.getElem?_eq_none (by omega)] at tv
      exact absurd (congrArg Prod.fst tv) (by decide)
  have vne : v ≠ a := fun q => by
    rw [q, t.2] at tv
    exact absurd (congrArg Prod.fst tv) (by decide)
  unfold SOF
  rw [rv] at w ne gr ⊢
  have c3 : h3[a]? = h1[a]? := (z1 a (Ne.symm gr.2.1)).trans (w.2 a (Ne.symm vne))
  have f3 : ∀ k, fA h3 a k = fA h1 a k := fun k => fA_c c3 k
  have e8 : fO h3 8 4 = fO h 8 4 := by
    rw [fO_c (z1 8 (by omega)) 4, fO_c (w.2 8 (by omega)) 4, fO_c (b4 8 (by omega) (by omega)) 4]
  have len9 : (arI h1 v).length = 9 := by
    have tv1 : h1[v]? = h[v]? := b4 v vlt vne
    obtain ⟨xs, hc, hn, -⟩ := hO.int tv
    rw [arI_of (tv1.trans hc), hn]
  have x := fun (q : Int) (q0 : 0 ≤ q) => gI_sq (h := h1) (h' := h2) (q := v) (n := 9) (p := P.toInt.toNat) (v := V) (j := q) len9 w.1 (by omega) q0
  have v3 : ∀ q, gI h3 v q = gI h2 v q := fun q => gI_e (arI_c (z1 v (Ne.symm gr.2.2))) q
  have v1 : ∀ q, gI h1 v q = gI h v q := fun q => gI_e (arI_c (b4 v vlt vne)) q
  have vp : gI h3 v p = fO h 8 4 := by
    rw [v3, (x p hp.1).1 (by omega), eV]
  have vo : ∀ q, q ≠ p → 0 ≤ q → gI h3 v q = gI h v q := fun q hq q0 => by
    rw [v3, (x q q0).2 (by omega), v1]
  have s3 : ∀ j : Int, 0 ≤ j → (968 * p ≤ j ∧ j < 968 * (p + 1) → sgv h3 a j = 0) ∧ (¬ (968 * p ≤ j ∧ j < 968 * (p + 1)) → sgv h3 a j = sgv h a j) := fun j j0 => by
    have g2 : gL h2 r j = gL h1 r j := gL_e (by unfold arJ; rw [w.2 r gr.2.2]) j
    rw [sgv_s ((f3 12).trans b2), ← b1 j, sgv_s b2]
    exact ⟨fun q => (z2 j j0).1 q, fun q => ((z2 j j0).2 q).trans g2⟩
  refine ⟨fun q i q0 q1 i0 i1 => ?_, vp, (f3 12).trans b2, vo, b3, fun b hb h1 h2 h3 => (z1 b h3).trans ((w.2 b h2).trans (b4 b hb h1)), fun k hk hne => (f3 k).trans (b5 k hk hne)⟩
  have rp : rP h3 a 13 = v := (rP_e (f3 13)).trans ((rP_e (b5 13 (by decide) (by decide))).trans rv)
  by_cases k : q = p
  · subst k
    rw [KBf_n (h := h) (by rw [rv, ← v1]; exact ne), KBf_y (by rw [rp, vp, e8])]
    exact (s3 _ (by omega)).1 (by omega)
  · exact KBf_e (by rw [rp, rv]; exact vo q k q0) e8 ((s3 _ (by omega)).2 (by omega))
theorem lt_tg {h : aH} {b : Nat} {t : Nat × Nat} (e : tg h b = t) (ht : t.1 < 900) : b < h.length := by
  by_cases q : b < h.length
  · exact q
  · unfold tg at e
    rw [List.getElem?_eq_none (by omega)] at e
    rw [← e] at ht
    exact absurd ht (by decide)
/-- the cells that comets are of stay, but for one's sights and versions -/
def KOq (h h' : aH) (a v r : Nat) : Prop := ∀ b, b < h.length → b ≠ a → b ≠ v → b ≠ r → h'[b]? = h[b]?
theorem CMq.ko {h h' : aH} {a r : Nat} (hO : OK h) (t : 114 ≤ a ∧ tg h a = (102, 14)) (K : KOq h h' a (rP h a 13) r) (hr : tg h r = (4, 8712) ∨ h.length ≤ r) (gr : 114 ≤ r) (f : ∀ k, k < 14 → k ≠ 12 → fA h' a k = fA h a k) : CMq h h' ∧ ∀ (c : Int) (z : Nat), cz h c z → z ≠ a → h'[z]? = h[z]? := by
  obtain ⟨v, ev, rv, gv, tv⟩ := vP_ok hO t.2
  have hl := hO.len
  rw [rv] at K
  have nr : ∀ b t', tg h b = t' → t'.1 < 900 → t' ≠ (4, 8712) → b ≠ r := fun b t' e h9 n q => by
    subst q
    rcases hr with q | q
    · exact n (e.symm.trans q)
    · have := lt_tg e h9
      omega
  have K' : ∀ b t', tg h b = t' → t'.1 < 900 → t' ≠ (4, 8712) → t' ≠ (102, 14) → t' ≠ (0, 9) → h'[b]? = h[b]? := fun b t' e h9 n n2 n3 => K b (lt_tg e h9) (fun q => n2 (by rw [← e, q, t.2])) (fun q => n3 (by rw [← e, q, tv])) (nr b t' e h9 n)
  have oth : ∀ (c : Int) (z : Nat), cz h c z → z ≠ a → h'[z]? = h[z]? := fun c z w ne => by
    have tz := cz_ok hO w
    exact K z (lt_tg tz.2 (by decide)) ne (fun q => by
      have q2 := tz.2
      rw [q, tv] at q2
      exact absurd (congrArg Prod.fst q2) (by decide)) (nr z _ tz.2 (by decide) (by decide))
  refine ⟨⟨fO_c (K 1 (by omega) (by omega) (by omega) (by omega)) 4, arR_c (K 4 (by omega) (by omega) (by omega) (by omega)), fO_c (K 8 (by omega) (by omega) (by omega) (by omega)) 4, fun c z h0 h1 w => ?_⟩, oth⟩
  have tz := cz_ok hO w
  have k : ∀ k, k < 14 → k ≠ 12 → fA h' z k = fA h z k := fun k hk n => by
    by_cases q : z = a
    · rw [q]
      exact f k hk n
    · exact fA_c (oth c z w q) k
  obtain ⟨gg, p, s, nd, rc, wy, b, pa, bo, fi, l, q1, q2, sg, q3, cc, k1, k2, k3, k4, k5⟩ := hO.comet tz.2
  have e11 : rP h z 11 = q2 := rP_of (fA_of (k := 11) cc)
  have e10 : qP h z = q1 := qP_of (fA_of (k := 10) cc)
  refine ⟨k, fun d => ?_, fun j => cf_j (k 8 (by decide) (by decide)) (k 9 (by decide) (by decide)) (k 10 (by decide) (by decide)) (by rw [e10]; exact arI_c (K' q1 _ k1.2 (by decide) (by decide) (by decide) (by decide)))⟩
  have a11 : arI h' (rP h z 11) = arI h (rP h z 11) := by
    rw [e11]
    exact arI_c (K' q2 _ k2.2 (by decide) (by decide) (by decide) (by decide))
  unfold CDz at d ⊢
  rw [fO_eA (k 2 (by decide) (by decide)), fO_eA (k 3 (by decide) (by decide)), fO_eA (k 4 (by decide) (by decide)), fO_eA (k 5 (by decide) (by decide)), rP_e (k 11 (by decide) (by decide))]
  refine ⟨d.1, d.2.1, d.2.2.1, d.2.2.2.1, fun e e0 e1 => ?_⟩
  rw [gI_e a11]
  exact d.2.2.2.2 e e0 e1
/-- the sights of a comet other than the one in hand stay -/
theorem KBf_o {h h' : aH} {a r z : Nat} {c : Int} {p i : Int} (hO : OK h) (K : KOq h h' a (rP h a 13) r) (w : cz h c z) (ez : h'[z]? = h[z]?) (e8 : fO h' 8 4 = fO h 8 4) (nv : rP h z 13 ≠ rP h a 13) (ta : tg h a = (102, 14)) (hr : tg h r = (4, 8712) ∨ h.length ≤ r) (ns : fA h z 12 ≠ some (.inr (.inr (some r)))) : KBf h' z p i = KBf h z p i ∧ gI h' (rP h z 13) p = gI h (rP h z 13) p := by
  have tz := cz_ok hO w
  obtain ⟨u, eu, ru, gu, tu⟩ := vP_ok hO tz.2
  have hu : h'[u]? = h[u]? := K u (lt_tg tu (by decide)) (fun q => by rw [q, ta] at tu; exact absurd (congrArg Prod.fst tu) (by decide)) (by rw [← ru]; exact nv) (fun q => by
    rcases hr with k | k
    · rw [← q, tu] at k
      exact absurd (congrArg Prod.fst k) (by decide)
    · have := lt_tg tu (by decide)
      omega)
  have g : gI h' (rP h z 13) p = gI h (rP h z 13) p := by
    rw [ru]
    exact gI_e (arI_c hu) p
  refine ⟨KBf_e (by rw [rP_e (fA_c ez 13)]; exact g) e8 ?_, g⟩
  rcases sg_or hO tz.2 with e | ⟨s, e, gs, ts⟩
  · rw [sgv_n e, sgv_n ((fA_c ez 12).trans e)]
  · rw [sgv_s e, sgv_s ((fA_c ez 12).trans e)]
    have hs : h'[s]? = h[s]? := K s (lt_tg ts (by decide)) (fun q => by rw [q, ta] at ts; exact absurd (congrArg Prod.fst ts) (by decide)) (fun q => by
      obtain ⟨v, ev, rv, gv, tv⟩ := vP_ok hO ta
      rw [q, rv, tv] at ts
      exact absurd (congrArg Prod.fst ts) (by decide)) (fun q => ns (by rw [← q]; exact e))
    exact gL_e (by unfold arJ; rw [hs]) _
theorem SGx.sof {ls : List (List (Int × Int) × List (Int × Int))} {h h' : aH} {Y : Nat → Int → Int → Int → Prop} {c : Int} {a r : Nat} {p : Int} (H : SGx ls h Y) (hO : OK h) (c0 : 0 ≤ c) (c1 : c < fO h 1 4) (w : cz h c a) (S : SOF h h' a r p) (gr : 114 ≤ r) : SGx ls h' Y := by
  have t := cz_ok hO w
  obtain ⟨s1, s2, s3, s4, s5, s6, s7⟩ := S
  have hr : tg h r = (4, 8712) ∨ h.length ≤ r := by
    rcases s5 with q | ⟨-, q⟩
    · rcases sg_or hO t.2 with e | ⟨s, e, gs, ts⟩
      · rw [q] at e
        cases e
      · rw [q] at e
        cases e
        exact Or.inl ts
    · exact Or.inr (by omega)
  obtain ⟨m, oth⟩ := CMq.ko hO t s6 hr gr s7
  have ns : ∀ (d : Int) (z : Nat), 0 ≤ d → d < fO h 1 4 → d ≠ c → cz h d z → fA h z 12 ≠ some (.inr (.inr (some r))) := fun d z d0 d1 ne wz q => by
    rcases s5 with e | ⟨-, e⟩
    · exact (H.2 d c z a d0 d1 c0 c1 ne wz w).2.2 r q e
    · rcases sg_or hO (cz_ok hO wz).2 with k | ⟨s, k, gs, ts⟩
      · rw [q] at k
        cases k
      · rw [q] at k
        cases k
        have := lt_tg ts (by decide)
        omega
  have ni : ∀ (d : Int) (z : Nat), 0 ≤ d → d < fO h 1 4 → cz h d z → z ≠ a → d ≠ c := fun d z _ _ wz ne q => by
    subst q
    exact ne (cz_u wz w)
  refine H.g m (fun d z d0 d1 wz => ?_) (fun d e y z d0 d1 e0 e1 ne wy wz s q1 q2 => ?_)
  · by_cases q : z = a
    · subst q
      refine ⟨fun q q0 q1 => ?_, fun A => ?_⟩
      · by_cases k : q = p
        · subst k
          exact Int.le_of_eq s2
        · rw [s4 q k q0]
          exact (H.1 d z d0 d1 wz).2.1 q q0 q1
      · exact A.kb s7 (m.2.2.2 d z d0 d1 wz).2.2 s1
    · have nc := ni d z d0 d1 wz q
      have k := fun p i => KBf_o (p := p) (i := i) hO s6 wz (oth d z wz q) m.2.2.1 (H.2 d c z a d0 d1 c0 c1 nc wz w).2.1 t.2 hr (ns d z d0 d1 nc wz)
      refine ⟨fun x x0 x1 => ?_, fun A => ?_⟩
      · rw [(k x 0).2]
        exact (H.1 d z d0 d1 wz).2.1 x x0 x1
      · exact A.kb (m.2.2.2 d z d0 d1 wz).1 (m.2.2.2 d z d0 d1 wz).2.2 (fun p i _ _ _ _ => (k p i).1)
  · by_cases k1 : y = a
    · subst k1
      rw [s3] at q1
      cases q1
      have nz : z ≠ y := fun k => (H.2 d e y z d0 d1 e0 e1 ne wy wz).1 k.symm
      rw [fA_c (oth e z wz nz) 12] at q2
      exact ns e z e0 e1 (ni e z e0 e1 wz nz) wz q2
    · rw [fA_c (oth d y wy k1) 12] at q1
      by_cases k2 : z = a
      · subst k2
        rw [s3] at q2
        cases q2
        exact ns d y d0 d1 (ni d y d0 d1 wy k1) wy q1
      · rw [fA_c (oth e z wz k2) 12] at q2
        exact (H.2 d e y z d0 d1 e0 e1 ne wy wz).2.2 s q1 q2
def SGp (a : Nat) (p k e : Int) : Nat → Int → Int → Int → Prop := fun z p' k' e' => z = a ∧ p' = p ∧ k' = k ∧ e' = e
theorem SGx.mono {ls : List (List (Int × Int) × List (Int × Int))} {h : aH} {Y : Nat → Int → Int → Int → Prop} (H : SGc ls h) : SGx ls h Y := ⟨fun c z h0 h1 w => by
  obtain ⟨a, b, d⟩ := H.1 c z h0 h1 w
  exact ⟨a, b, fun p k e p0 p1 k0 k1 e0 e1 _ => d p k e p0 p1 k0 k1 e0 e1 id⟩, H.2⟩
/-- the index of a bit of a people's -/
theorem bix_u {p p' k k' e e' o o' : Int} (he : -120 ≤ e ∧ e ≤ 120) (he' : -120 ≤ e' ∧ e' ≤ 120) (hk : -60 ≤ k ∧ k ≤ 60) (hk' : -60 ≤ k' ∧ k' ≤ 60) (ho : o = 0 ∨ o = 4) (ho' : o' = 0 ∨ o' = 4) (q : 968 * p' + (bix k' e' + o') = 968 * p + (bix k e + o)) : p' = p ∧ k' = k ∧ (e' + 120) / 64 = (e + 120) / 64 ∧ o' = o := by
  unfold bix at q
  omega
/-- one bit is set -/
theorem SGx.b {ls : List (List (Int × Int) × List (Int × Int))} {h h' : aH} {c : Int} {a r : Nat} {p k e o : Int} {J : Int32} {old bit : Int64} (H : SGx ls h (SGp a p k e)) (hO : OK h) (c0 : 0 ≤ c) (c1 : c < fO h 1 4) (w : cz h c a) (er : fA h a 12 = some (.inr (.inr (some r)))) (ev : gI h (rP h a 13) p = fO h 8 4) (W : wJ h h' r ((arJ h r).set J.toInt.toNat (old ||| bit))) (hJ : J.toInt = 968 * p + (bix k e + o)) (hold : gL h r J.toInt = old) (hb : bit.toBitVec = BitVec.twoPow 64 ((e + 120) % 64).toNat) (ho : o = 0 ∨ o = 4) (hp : 0 ≤ p ∧ p ≤ 8) (hk : -60 ≤ k ∧ k ≤ 60) (he : -120 ≤ e ∧ e ≤ 120) : SGx ls h' (SGp a p k e) ∧ (fA h' a 12 = some (.inr (.inr (some r))) ∧ gI h' (rP h' a 13) p = fO h' 8 4 ∧ fO h' 1 4 = fO h 1 4 ∧ cz h' c a) ∧ tb (gL h' r (968 * p + (bix k e + o))) ((e + 120) % 64) ∧ ∀ o', (o' = 0 ∨ o' = 4) → o' ≠ o → gL h' r (968 * p + (bix k e + o')) = gL h r (968 * p + (bix k e + o')) := by
  have t := cz_ok hO w
  have tr : 114 ≤ r ∧ tg h r = (4, 8712) := by
    rcases sg_or hO t.2 with q | ⟨s, q, gs, ts⟩
    · rw [er] at q
      cases q
    · rw [er] at q
      cases q
      exact ⟨gs, ts⟩
  have len : (arJ h r).length = 8712 := by
    obtain ⟨xs, hc, hn⟩ := hO.lon tr.2
    rw [arJ_of hc, hn]
  have bx : 0 ≤ bix k e ∧ bix k e + 4 < 968 := by
    unfold bix
    omega
  have g : ∀ j : Int, 0 ≤ j → gL h' r j = if j = J.toInt then old ||| bit else gL h r j := fun j j0 => by
    unfold gL
    rw [W.1, List.getD_eq_getElem?_getD, List.getD_eq_getElem?_getD]
    by_cases q : j = J.toInt
    · rw [if_pos q, q, List.getElem?_set_self (by omega)]
      rfl
    · rw [if_neg q, List.getElem?_set_ne (by omega)]
  have na : a ≠ r := fun q => by
    have t2 := t.2
    rw [q, tr.2] at t2
    exact absurd (congrArg Prod.fst t2) (by decide)
  have ca := W.2 a na
  have K : KOq h h' a (rP h a 13) r := fun b _ _ _ b3 => W.2 b b3
  obtain ⟨m, oth⟩ := CMq.ko hO t K (Or.inl tr.2) tr.1 (fun k _ _ => fA_c ca k)
  have vA : ∀ q, gI h' (rP h a 13) q = gI h (rP h a 13) q := fun q => by
    obtain ⟨v, ev, rv, gv, tv⟩ := vP_ok hO t.2
    rw [rv]
    exact gI_e (arI_c (W.2 v (fun x => by
      rw [x, tr.2] at tv
      exact absurd (congrArg Prod.fst tv) (by decide)))) q
  have bd : ∀ x : Int, (0 : Int) ≤ (x + 120) % 64 ∧ (x + 120) % 64 ≤ 63 := fun x => by omega
  have ni : ∀ (d : Int) (z : Nat), cz h d z → z ≠ a → d ≠ c := fun d z wz ne q => by
    subst q
    exact ne (cz_u wz w)
  refine ⟨H.g m (fun d z d0 d1 wz => ?_) (fun d e y z d0 d1 e0 e1 ne wy wz s q1 q2 => ?_), ⟨(fA_c ca 12).trans er, ?_, m.1, (by
    unfold cz at w ⊢
    rw [m.2.1]
    exact w)⟩, ?_, fun o' h1 h2 => ?_⟩
  · by_cases q : z = a
    · subst q
      refine ⟨fun x x0 x1 => by rw [vA]; exact (H.1 d z d0 d1 wz).2.1 x x0 x1, fun A => A.e (fun k _ _ => fA_c ca k) (m.2.2.2 d z d0 d1 wz).2.2 (fun p' k' e' p0 p1 k0 k1 e0 e1 nx => ?_)⟩
      refine ⟨nx, ?_⟩
      have one : ∀ o', (o' = 0 ∨ o' = 4) → (tb (KBf h' z p' (bix k' e' + o')) ((e' + 120) % 64) ↔ tb (KBf h z p' (bix k' e' + o')) ((e' + 120) % 64)) := fun o' h1 => by
        have bx' : 0 ≤ bix k' e' := by
          unfold bix
          omega
        have rp : rP h' z 13 = rP h z 13 := rP_e (fA_c ca 13)
        by_cases cu : gI h (rP h z 13) p' = fO h 8 4
        · rw [KBf_y cu, KBf_y (by rw [rp, vA, m.2.2.1]; exact cu), sgv_s er, sgv_s ((fA_c ca 12).trans er), g _ (by omega)]
          by_cases x : 968 * p' + (bix k' e' + o') = J.toInt
          · rw [if_pos x, tb_or hb (bd e) (bd e'), x, hold]
            obtain ⟨u1, u2, u3, u4⟩ := bix_u he ⟨e0, e1⟩ hk ⟨k0, k1⟩ ho h1 (x.trans hJ)
            have : e' ≠ e := fun q => nx ⟨rfl, u1, u2, q⟩
            constructor
            · rintro (y | y)
              · exact y
              · omega
            · exact Or.inl
          · rw [if_neg x]
        · rw [KBf_n cu, KBf_n (by rw [rp, vA, m.2.2.1]; exact cu)]
      have o0 := one 0 (Or.inl rfl)
      rw [Int.add_zero] at o0
      exact ⟨o0, one 4 (Or.inr rfl)⟩
    · have nc := ni d z wz q
      have kk := fun p i => KBf_o (p := p) (i := i) hO K wz (oth d z wz q) m.2.2.1 (H.2 d c z a d0 d1 c0 c1 nc wz w).2.1 t.2 (Or.inl tr.2) (fun x => (H.2 d c z a d0 d1 c0 c1 nc wz w).2.2 r x er)
      refine ⟨fun x x0 x1 => ?_, fun A => ?_⟩
      · rw [(kk x 0).2]
        exact (H.1 d z d0 d1 wz).2.1 x x0 x1
      · exact A.kb (m.2.2.2 d z d0 d1 wz).1 (m.2.2.2 d z d0 d1 wz).2.2 (fun p i _ _ _ _ => (kk p i).1)
  · have f12 : ∀ (d : Int) (z : Nat), cz h d z → fA h' z 12 = fA h z 12 := fun d z wz => by
      by_cases q : z = a
      · rw [q]
        exact fA_c ca 12
      · exact fA_c (oth d z wz q) 12
    rw [f12 d y wy] at q1
    rw [f12 e z wz] at q2
    exact (H.2 d e y z d0 d1 e0 e1 ne wy wz).2.2 s q1 q2
  · rw [rP_e (fA_c ca 13), vA, m.2.2.1]
    exact ev
  · rw [g _ (by omega), if_pos hJ.symm, tb_or hb (bd e) (bd e)]
    exact Or.inr rfl
  · rw [g _ (by omega), if_neg (by omega)]
/-- the bit in hand is right again -/
theorem SGx.cl {ls : List (List (Int × Int) × List (Int × Int))} {h : aH} {c : Int} {a r : Nat} {p k e : Int} (H : SGx ls h (SGp a p k e)) (w : cz h c a) (c0 : 0 ≤ c) (c1 : c < fO h 1 4) (er : fA h a 12 = some (.inr (.inr (some r)))) (ev : gI h (rP h a 13) p = fO h 8 4) (t1 : tb (gL h r (968 * p + bix k e)) ((e + 120) % 64)) (t2 : fO h a 8 ≤ k → k ≤ fO h a 9 → (tb (gL h r (968 * p + (bix k e + 4))) ((e + 120) % 64) ↔ tdV ls (fO h a 2) (fO h a 4) (fO h a 3) (fO h a 5) p e (cf h a k + e) ≠ 0)) : SGc ls h := ⟨fun d z d0 d1 wz => by
  obtain ⟨x, y, A⟩ := H.1 d z d0 d1 wz
  refine ⟨x, y, fun p' k' e' p0 p1 k0 k1 e0 e1 _ => ?_⟩
  by_cases q : SGp a p k e z p' k' e'
  · obtain ⟨rfl, rfl, rfl, rfl⟩ := q
    rw [KBf_y ev, KBf_y ev, sgv_s er, sgv_s er]
    exact ⟨fun _ => t1, fun _ => t2⟩
  · exact A p' k' e' p0 p1 k0 k1 e0 e1 q, H.2⟩
theorem SOF.cm {h h' : aH} {a r : Nat} {p : Int} (hO : OK h) (t : 114 ≤ a ∧ tg h a = (102, 14)) (S : SOF h h' a r p) (gr : 114 ≤ r) : CMq h h' := by
  obtain ⟨s1, s2, s3, s4, s5, s6, s7⟩ := S
  refine (CMq.ko hO t s6 ?_ gr s7).1
  rcases s5 with q | ⟨-, q⟩
  · rcases sg_or hO t.2 with e | ⟨s, e, gs, ts⟩
    · rw [q] at e
      cases e
    · rw [q] at e
      cases e
      exact Or.inl ts
  · exact Or.inr (by omega)
/-- a bit of a comet's sights is in hand -/
def STq (ls : List (List (Int × Int) × List (Int × Int))) (h : aH) (c : Int) (a r : Nat) (p k e : Int) : Prop := SGx ls h (SGp a p k e) ∧ fA h a 12 = some (.inr (.inr (some r))) ∧ gI h (rP h a 13) p = fO h 8 4 ∧ (0 ≤ c ∧ c < fO h 1 4) ∧ cz h c a
theorem SOF.st {ls : List (List (Int × Int) × List (Int × Int))} {h h' : aH} {c : Int} {a r : Nat} {p k e : Int} (H : SGc ls h) (hO : OK h) (c0 : 0 ≤ c ∧ c < fO h 1 4) (w : cz h c a) (S : SOF h h' a r p) (gr : 114 ≤ r) : SGc ls h' ∧ STq ls h' c a r p k e := by
  have m := S.cm hO (cz_ok hO w) gr
  have g : SGc ls h' := SGx.sof H hO c0.1 c0.2 w S gr
  obtain ⟨s1, s2, s3, s4, s5, s6, s7⟩ := S
  refine ⟨g, SGx.mono g, s3, ?_, ⟨c0.1, by rw [m.1]; exact c0.2⟩, by unfold cz at w ⊢; rw [m.2.1]; exact w⟩
  rw [rP_e (s7 13 (by decide) (by decide)), m.2.2.1]
  exact s2
theorem gL_un {W : List Nat} {h h' : aH} {s : Nat} (hO : OK h) (g : un W h h') (gs : 114 ≤ s) (ts : tg h s = (4, 8712)) (w : 222 ∉ W) : gL h' s = gL h s := by
  obtain ⟨xs, hc, hn⟩ := hO.lon ts
  funext j
  refine gL_e ?_ j
  rw [arJ_of hc, arJ_of (g.ka (n := 8712) hc hn (scA_d gs) (by decide) (wid_sg gs) w)]
theorem STq.un {ls : List (List (Int × Int) × List (Int × Int))} {W : List Nat} {h h' : aH} {c : Int} {a r : Nat} {p k e : Int} (H : STq ls h c a r p k e) (hO : OK h) (g : un W h h') (w : ∀ k ∈ [200, 221, 222, 223, 4, 1104, 1804, 21200, 21201, 21202, 21203, 21204, 21205, 21206, 21207, 21208, 21209, 21210, 21211, 21212, 21213], k ∉ W) (e1 : fO h' 1 4 = fO h 1 4) (e8 : fO h' 8 4 = fO h 8 4) : STq ls h' c a r p k e ∧ gL h' r = gL h r := by
  obtain ⟨a1, a2, a3, a4, a5⟩ := H
  have t := cz_ok hO a5
  have f := fun k (hk : k < 14) (hw : 21200 + k ∉ W) => fC_un hO g t.1 t.2 hk hw
  obtain ⟨v, ev, rv, gv, tv⟩ := vP_ok hO t.2
  refine ⟨⟨a1.un hO g (fun k hk => w k (by revert hk; revert k; decide)) e1 e8, (f 12 (by decide) (w _ (by decide))).trans a2, ?_, ⟨a4.1, by omega⟩, ?_⟩, ?_⟩
  · rw [rP_e (f 13 (by decide) (w _ (by decide))), e8, ← a3, rv]
    obtain ⟨xs, hc, hn, he⟩ := hO.int tv
    refine gI_e ?_ p
    rw [arI_of hc, arI_of (g.ka (n := 9) hc hn (scA_d gv) (by decide) (wid_v gv) (w 223 (by decide)))]
  · unfold cz at a5 ⊢
    rw [arR_u4 hO g (w 4 (by decide))]
    exact a5
  · rcases sg_or hO t.2 with q | ⟨s, q, gs, ts⟩
    · rw [a2] at q
      cases q
    · rw [a2] at q
      cases q
      exact gL_un hO g gs ts (w 222 (by decide))
theorem STq.b {ls : List (List (Int × Int) × List (Int × Int))} {h h' : aH} {c : Int} {a r : Nat} {p k e o : Int} {J : Int32} {old bit y : Int64} (H : STq ls h c a r p k e) (hO : OK h) (W : wJ h h' r ((arJ h r).set J.toInt.toNat y)) (ey : old ||| bit = y) (hJ : J.toInt = 968 * p + (bix k e + o)) (hold : gL h r J.toInt = old) (hb : bit.toBitVec = BitVec.twoPow 64 ((e + 120) % 64).toNat) (ho : o = 0 ∨ o = 4) (hp : 0 ≤ p ∧ p ≤ 8) (hk : -60 ≤ k ∧ k ≤ 60) (he : -120 ≤ e ∧ e ≤ 120) : STq ls h' c a r p k e ∧ tb (gL h' r (968 * p + (bix k e + o))) ((e + 120) % 64) ∧ ∀ o', (o' = 0 ∨ o' = 4) → o' ≠ o → gL h' r (968 * p + (bix k e + o')) = gL h r (968 * p + (bix k e + o')) := by
  obtain ⟨a1, a2, a3, a4, a5⟩ := H
  subst ey
  obtain ⟨b1, ⟨b2, b3, b4, b5⟩, b6, b7⟩ := a1.b hO a4.1 a4.2 a5 a2 a3 W hJ hold hb ho hp hk he
  exact ⟨⟨b1, b2, b3, ⟨a4.1, by omega⟩, b5⟩, b6, b7⟩
theorem STq.cl {ls : List (List (Int × Int) × List (Int × Int))} {h : aH} {c : Int} {a r : Nat} {p k e : Int} (H : STq ls h c a r p k e) (t1 : tb (gL h r (968 * p + (bix k e + 0))) ((e + 120) % 64)) (t2 : fO h a 8 ≤ k → k ≤ fO h a 9 → (tb (gL h r (968 * p + (bix k e + 4))) ((e + 120) % 64) ↔ tdV ls (fO h a 2) (fO h a 4) (fO h a 3) (fO h a 5) p e (cf h a k + e) ≠ 0)) : SGc ls h := by
  obtain ⟨a1, a2, a3, a4, a5⟩ := H
  rw [Int.add_zero] at t1
  exact a1.cl a5 a4.1 a4.2 a2 a3 t1 t2
/-- what the bits in hand say, with all of them right -/
theorem STq.ca {ls : List (List (Int × Int) × List (Int × Int))} {h : aH} {c : Int} {a r : Nat} {p k e : Int} (G : SGc ls h) (H : STq ls h c a r p k e) (hp : 0 ≤ p ∧ p ≤ 8) (hk : -60 ≤ k ∧ k ≤ 60) (he : -120 ≤ e ∧ e ≤ 120) : (tb (gL h r (968 * p + (bix k e + 4))) ((e + 120) % 64) → tb (gL h r (968 * p + (bix k e + 0))) ((e + 120) % 64)) ∧ (tb (gL h r (968 * p + (bix k e + 0))) ((e + 120) % 64) → fO h a 8 ≤ k → k ≤ fO h a 9 → (tb (gL h r (968 * p + (bix k e + 4))) ((e + 120) % 64) ↔ tdV ls (fO h a 2) (fO h a 4) (fO h a 3) (fO h a 5) p e (cf h a k + e) ≠ 0)) := by
  obtain ⟨a1, a2, a3, a4, a5⟩ := H
  have A := (G.1 c a a4.1 a4.2 a5).2.2 p k e hp.1 hp.2 hk.1 hk.2 he.1 he.2 id
  rw [KBf_y a3, KBf_y a3, sgv_s a2, sgv_s a2] at A
  rw [Int.add_zero]
  exact A
theorem lcz {x b w : Int64} {z : Int32} {s : Int} (e1 : x &&& b = w) (e2 : lg_cmp w 0 = z) (hb : b.toBitVec = BitVec.twoPow 64 s.toNat) (hs : 0 ≤ s ∧ s ≤ 63) : z.toInt = 0 ↔ ¬ tb x s := by
  rw [← tb_and hb hs, e1]
  have q := tj_cmp e2
  have l : ((0 : Int64)).toInt = 0 := rfl
  omega
theorem and_63 {u z : Int32} (e : u &&& 63 = z) (h : 0 ≤ u.toInt) : z.toInt = u.toInt % 64 := by
  have k : z.toBitVec.toNat = u.toBitVec.toNat % 64 := by
    rw [← e]
    show ((u &&& 63).toBitVec).toNat = _
    rw [Int32.toBitVec_and, BitVec.toNat_and]
    exact Nat.and_two_pow_sub_one_eq_mod _ 6
  have hu : u.toInt = (u.toBitVec.toNat : Int) := by
    have c : u.toInt = if 2 * u.toBitVec.toNat < 2 ^ 32 then (u.toBitVec.toNat : Int) else (u.toBitVec.toNat : Int) - ((2 ^ 32 : Nat) : Int) := BitVec.toInt_eq_toNat_cond _
    have l := u.toBitVec.isLt
    split at c <;> omega
  have hz : z.toInt = (z.toBitVec.toNat : Int) := by
    show z.toBitVec.toInt = _
    rw [BitVec.toInt_eq_toNat_cond, if_pos (by omega)]
  rw [hz, hu, k]
  omega
theorem SKc.rg {h : aH} {c : Int} {z : Nat} {k : Int} (H : SKc h) (c0 : 0 ≤ c ∧ c < fO h 1 4) (w : cz h c z) (k0 : fO h z 8 ≤ k ∧ k ≤ fO h z 9) : 0 ≤ cf h z k ∧ cf h z k ≤ 999999 := by
  obtain ⟨y, wy, -, R⟩ := H.2.1 c c0.1 c0.2
  obtain rfl := cz_u wy w
  exact (R c0.2).2 k k0.1 k0.2
set_option maxRecDepth 20000 in
set_option maxHeartbeats 4000000 in
theorem sd_X5_forgetSights {d kc ks : Nat} {h0 : aH} {Q : Option aV → aH → Prop} (hO0 : OK h0)  (pre0 : fO h0 8 4 ≤ 1000000) (hQ : ∀ r h', (r = none) → OK h' → un [1804] h0 h' → (fO h' 8 4 = fO h0 8 4 + 1) → Q r h') : uCall Mt (d + 1) 48 [(.inr (.inr (some 8)))] h0 kc ks Q := by
  have l_1 : ((1) : Int32).toInt = 1 := by decide
  refine uc_ink [some (.inr (.inr (some 8)))] mt_48 (Nat.le_of_ble_eq_true rfl) rfl ?_
  obtain ⟨f2, hc1, k3⟩ := ok_8 hO0
  have t4 := fO_of (k := 4) hc1 rfl
  refine ur_ldA rfl rfl ?_
  refine ur_dup rfl rfl ?_
  refine ur_get rfl hc1 rfl ?_
  refine ur_push rfl ?_
  refine ur_binV rfl (fun x5 e6 => ?_)
  have z7 := any_r f2
  have t8 := ti_add e6 (by omega) (by omega)
  refine ur_putV (W := [1804]) (fs' := [(.inr (.inr (some 9))), (.inr (.inr (some 11))), (.inr (.inr (some 13))), (.inr (.inr (some 14))), (.inl x5)]) rfl hO0 hc1 (Nat.le_of_ble_eq_true rfl) rfl rfl ⟨rfl, _, rfl, trivial⟩ rfl (Or.inr (by show 1000 + 100 * wid 8 (105, 5) + 4 ∈ _; rw [(wid_f (by decide))]; decide)) (fun h10 hO10 hu10 d9 hc11 => ?_)
  have t12 := fO_of (k := 4) hc11 rfl
  exact ur_ret0 rfl (hQ _ _ rfl hO10 hu10 (by omega))

set_option maxRecDepth 20000 in
set_option maxHeartbeats 4000000 in
theorem sd_X5_sightsOf {d kc ks : Nat} {h0 : aH} {Q : Option aV → aH → Prop} (hO0 : OK h0) {a1 : Nat} (g1 : 114 ≤ a1) (t1 : tg h0 a1 = (102, 14)) (a2 : Int32) (b2 : 0 ≤ a2.toInt ∧ a2.toInt ≤ 8) (hQ : ∀ r h', (∃ z, r = some (.inr (.inr (some z))) ∧ (114 ≤ z ∧ tg h' z = (4, 8712)) ∧ (SOF h0 h' a1 z a2.toInt)) → OK h' → un [222, 223, 21212] h0 h' → Q r h') : uCall Mt (d + 3) 52 [(.inr (.inr (some 8))), (.inr (.inr (some a1))), (.inl a2)] h0 kc ks Q := by
  have l_0 : ((0) : Int32).toInt = 0 := by decide
  have l_1 : ((1) : Int32).toInt = 1 := by decide
  have l_8 : ((8) : Int32).toInt = 8 := by decide
  have l_121 : ((121) : Int32).toInt = 121 := by decide
  have l_8712 : ((8712) : Int32).toInt = 8712 := by decide
  refine uc_ink [some (.inr (.inr (some 8))), some (.inr (.inr (some a1))), some (.inl a2), none, none, none] mt_52 (Nat.le_of_ble_eq_true rfl) rfl ?_
  obtain ⟨f2, hc1, k3⟩ := ok_8 hO0
  have t4 := fO_of (k := 4) hc1 rfl
  obtain ⟨g25, f6, f7, f8, f9, f10, f11, f12, f13, f14, f15, q16, q17, o18, q19, hc5, k20, k21, k22, k23, k24⟩ := hO0.comet t1
  refine ur_ldA rfl rfl ?_
  refine ur_get rfl hc5 rfl ?_
  cases o18 with
  | none =>
    refine ur_nulN rfl ?_
    refine ur_ldA rfl rfl ?_
    refine ur_push rfl ?_
    refine ur_newSgE (W := [222, 223, 21212]) rfl rfl (fun _ => rfl) hO0 hc5 rfl (by decide) (fun h30 r27 hO30 hu30 hc28 k29 ez31 ex32 => ?_)
    refine ur_ldA rfl rfl ?_
    refine ur_get rfl hc28 rfl ?_
    refine ur_svAk [some (.inr (.inr (some 8))), some (.inr (.inr (some a1))), some (.inl a2), some (.inr (.inr (some r27))), none, none] rfl rfl ?_
    refine ur_ldI rfl rfl ?_
    refine ur_callv rfl rfl (Nat.le_of_ble_eq_true rfl) (Nat.le_of_ble_eq_true rfl) rfl (sp_isPpl _ _) ?_
    refine ur_eqB rfl (fun c35 => ?_) (fun c35 => ?_)
    · have t36 := wi_noL c35 l_0 l_8
      refine ur_ldA rfl rfl ?_
      have t37 := fO_of (k := 4) (hu30.ko (n := 5) hc1 rfl (wid_f (by decide)) (by decide)) rfl
      exact ur_ret rfl rfl (hQ _ _ ⟨_, rfl, ⟨k29.1, k29.2⟩, (SOF.m hO0 ⟨g1, t1⟩ (BSq.new hc5 rfl ez31 ex32) (by omega))⟩ hO30 hu30)
    · have t38 := wi_toL c35 l_0 l_8
      refine ur_ldA rfl rfl ?_
      refine ur_get rfl hc28 rfl ?_
      refine ur_ldI rfl rfl ?_
      obtain ⟨xs40, hc39, hn41, he42⟩ := hO30.int (hu30.tm k23.2 (by decide))
      refine ur_aldV rfl hc39 hn41 (by omega) (fun x43 hx44 => ?_)
      have t45 := gI_of (j := a2) hc39 hx44
      have e46 : rP h0 a1 13 = q19 := rP_of (fA_of (k := 13) hc5)
      have tt47 : gI h30 (rP h0 a1 13) a2.toInt = x43.toInt := by rw [e46]; exact t45
      refine ur_ldA rfl rfl ?_
      refine ur_get rfl (hu30.ko (n := 5) hc1 rfl (wid_f (by decide)) (by decide)) rfl ?_
      have t48 := fO_of (k := 4) (hu30.ko (n := 5) hc1 rfl (wid_f (by decide)) (by decide)) rfl
      have tt49 : fO h30 8 4 = fO h0 8 4 := fO_keep (a := 8) (ci := 5) (n := 5) (k := 4) hO0 hO30 hu30 (by decide) rfl (by decide) rfl (by decide)
      have z50 := any_r x43
      have z51 := any_r f2
      refine ur_if2 rfl (fun c52 => ?_) (fun c52 => ?_)
      · have t53 := eq_to c52
        refine ur_ldA rfl rfl ?_
        exact ur_ret rfl rfl (hQ _ _ ⟨_, rfl, ⟨k29.1, k29.2⟩, (SOF.m hO0 ⟨g1, t1⟩ (BSq.new hc5 rfl ez31 ex32) (by omega))⟩ hO30 hu30)
      · have t54 := eq_no c52
        refine ur_ldA rfl rfl ?_
        refine ur_get rfl hc28 rfl ?_
        refine ur_ldI rfl rfl ?_
        refine ur_ldA rfl rfl ?_
        refine ur_get rfl (hu30.ko (n := 5) hc1 rfl (wid_f (by decide)) (by decide)) rfl ?_
        refine ur_astV (W := [222, 223, 21212]) (m := 9) rfl hO30 hc39 (by decide) hn41 (by omega) (any_d k23.1 _) (Or.inr (Or.inr (wid_ver k23.1 (by decide)))) (fun h57 hO57 hu57 d55 hc56 => ?_)
        have w58 : wI h30 h57 q19 ((arI h30 q19).set (a2 : Int32).toInt.toNat f2) := ⟨by rw [arI_of hc56, arI_of hc39], d55⟩
        refine ur_ldI rfl rfl ?_
        refine ur_push rfl ?_
        refine ur_binV rfl (fun x59 e60 => ?_)
        have z61 := any_r a2
        have t62 := ti_add e60 (by omega) (by omega)
        refine ur_push rfl ?_
        refine ur_binV rfl (fun x63 e64 => ?_)
        have z65 := any_r x59
        have t66 := ti_mulL e64 l_121 (by omega) (by omega)
        refine ur_push rfl ?_
        refine ur_binV rfl (fun x67 e68 => ?_)
        have z69 := any_r x63
        have t70 := ti_mulL e68 l_8 (by omega) (by omega)
        refine ur_ldA rfl rfl ?_
        obtain ⟨xs72, hc71, hn73⟩ := hO57.lon (hu57.tm k29.2 (by decide))
        refine ur_lenV (m := 8712) rfl hc71 hn73 (by decide) (fun x75 t76 => ?_)
        refine ur_minV rfl (by show ¬ 9 ≤ 2; decide) (fun x77 t78 e79 => ?_)
        refine ur_svIk [some (.inr (.inr (some 8))), some (.inr (.inr (some a1))), some (.inl a2), some (.inr (.inr (some r27))), some (.inl x77), none] rfl rfl ?_
        refine ur_ldI rfl rfl ?_
        refine ur_push rfl ?_
        refine ur_binV rfl (fun x80 e81 => ?_)
        have t82 := ti_mulL e81 l_121 (by omega) (by omega)
        refine ur_push rfl ?_
        refine ur_binV rfl (fun x83 e84 => ?_)
        have z85 := any_r x80
        have t86 := ti_mulL e84 l_8 (by omega) (by omega)
        refine ur_svIk [some (.inr (.inr (some 8))), some (.inr (.inr (some a1))), some (.inl a2), some (.inr (.inr (some r27))), some (.inl x77), some (.inl x83)] rfl rfl ?_
        have t91 := fO_of (k := 4) ((d55 _ (ne_tg (hO57.fix 8 (by decide) rfl) (hu57.tm (hu30.tm k23.2 (by decide)) (by decide)) (by decide))).trans (hu30.ko (n := 5) hc1 rfl (wid_f (by decide)) (by decide))) rfl
        have L88 : ∀ (m89 : Nat) (x87 : Int32) (h92 : aH) , OK h92 → un [222, 223, 21212] h57 h92 → ((0 ≤ x87.toInt ∧ x87.toInt ≤ 8712) ∧ 968 * a2.toInt ≤ x87.toInt ∧ x87.toInt ≤ 968 * (a2.toInt + 1)) → (ZRq h57 h92 r27 (968 * a2.toInt) x87.toInt) → ((8713 - x87.toInt).toNat) < m89 → uRun oX5_sightsOf (uCall Mt (d + 2)) Q 76 ([some (.inr (.inr (some 8))), some (.inr (.inr (some a1))), some (.inl a2), some (.inr (.inr (some r27))), some (.inl x77), some (.inl x87)], [], h92, kc, ks) := by
          intro m89
          induction m89 with
          | zero => intro x87 h92 hO92 hu92 iv94 px93 mm95; omega
          | succ m89 ih90 =>
            intro x87 h92 hO92 hu92 iv94 px93 mm95
            obtain ⟨xs97, hc96, hn98⟩ := hO92.lon (hu92.tm (hu57.tm k29.2 (by decide)) (by decide))
            refine ur_ldI rfl rfl ?_
            refine ur_ldI rfl rfl ?_
            have z100 := any_r x87
            have z101 := any_r x77
            refine ur_if2 rfl (fun c102 => ?_) (fun c102 => ?_)
            · have t103 := le_to c102
              refine ur_ldA rfl rfl ?_
              have hc104 := (hu92.ko (n := 5) ((d55 _ (ne_tg (hO57.fix 8 (by decide) rfl) (hu57.tm (hu30.tm k23.2 (by decide)) (by decide)) (by decide))).trans (hu30.ko (n := 5) hc1 rfl (wid_f (by decide)) (by decide))) rfl (wid_f (by decide)) (by decide))
              have t105 := fO_of (k := 4) hc104 rfl
              exact ur_ret rfl rfl (hQ _ _ ⟨_, rfl, ⟨k29.1, (hu92.tm (hu57.tm k29.2 (by decide)) (by decide))⟩, (SOF.z (P := a2) (V := f2) hO0 hO30 ⟨g1, t1⟩ (BSq.new hc5 rfl ez31 ex32) (by rw [e46]; exact w58) (by have q := px93; rw [show x87.toInt = 968 * (a2.toInt + 1) by omega] at q; exact q) rfl (by omega) (by omega) (by omega) ⟨k29.1, (ne_tg (hu92.tm (hu57.tm k29.2 (by decide)) (by decide)) (hu92.tm (hu57.tm (hu30.tm t1 (by decide)) (by decide)) (by decide)) (by decide)), (by rw [e46]; exact ne_tg (hu92.tm (hu57.tm k29.2 (by decide)) (by decide)) (hu92.tm (hu57.tm (hu30.tm k23.2 (by decide)) (by decide)) (by decide)) (by decide))⟩)⟩ hO92 (hu30.tr (hu57.tr hu92)))
            · have t106 := le_no c102
              refine ur_ldA rfl rfl ?_
              refine ur_ldI rfl rfl ?_
              refine ur_push rfl ?_
              refine ur_astJV (W := [222, 223, 21212]) (m := 8712) rfl hO92 hc96 hn98 (by omega) (Or.inr (Or.inr (wid_sig k29.1 (by decide)))) (fun h109 hO109 hu109 d107 hc108 => ?_)
              have w110 : wJ h92 h109 r27 ((arJ h92 r27).set (x87 : Int32).toInt.toNat 0) := ⟨by rw [arJ_of hc108, arJ_of hc96], d107⟩
              refine ur_incV (fun z => [some (.inr (.inr (some 8))), some (.inr (.inr (some a1))), some (.inl a2), some (.inr (.inr (some r27))), some (.inl x77), some (.inl z)]) rfl rfl (fun _ => rfl) (fun x111 e112 => ?_)
              have t113 := ti_add e112 (by omega) (by omega)
              refine ur_go rfl ?_
              have hc114 := ((d107 _ (ne_tg (hO109.fix 8 (by decide) rfl) (hu109.tm (hu92.tm (hu57.tm k29.2 (by decide)) (by decide)) (by decide)) (by decide))).trans (hu92.ko (n := 5) ((d55 _ (ne_tg (hO57.fix 8 (by decide) rfl) (hu57.tm (hu30.tm k23.2 (by decide)) (by decide)) (by decide))).trans (hu30.ko (n := 5) hc1 rfl (wid_f (by decide)) (by decide))) rfl (wid_f (by decide)) (by decide)))
              have t115 := fO_of (k := 4) hc114 rfl
              have z116 := any_r x111
              exact ih90 x111 _ hO109 (hu92.tr hu109) (by omega) (ZRq.s (n := 8712) (j := x87) (x := 0) px93 w110 rfl (by rw [arJ_of hc96]; exact hn98) (by omega) (by omega) (by omega) (by omega)) (by omega)
        have z117 := any_r x83
        exact L88 _ x83 _ hO57 un.rf (by omega) (ZRq.z (by omega)) (Nat.lt_succ_self _)
  | some r26 =>
    refine ur_nulS rfl ?_
    have k118 := k22 _ rfl
    refine ur_ldA rfl rfl ?_
    refine ur_get rfl hc5 rfl ?_
    refine ur_svAk [some (.inr (.inr (some 8))), some (.inr (.inr (some a1))), some (.inl a2), some (.inr (.inr (some r26))), none, none] rfl rfl ?_
    refine ur_ldI rfl rfl ?_
    refine ur_callv rfl rfl (Nat.le_of_ble_eq_true rfl) (Nat.le_of_ble_eq_true rfl) rfl (sp_isPpl _ _) ?_
    refine ur_eqB rfl (fun c121 => ?_) (fun c121 => ?_)
    · have t122 := wi_noL c121 l_0 l_8
      refine ur_ldA rfl rfl ?_
      exact ur_ret rfl rfl (hQ _ _ ⟨_, rfl, ⟨k118.1, k118.2⟩, (SOF.m hO0 ⟨g1, t1⟩ (BSq.rf (fA_of (k := 12) hc5)) (by omega))⟩ hO0 un.rf)
    · have t123 := wi_toL c121 l_0 l_8
      refine ur_ldA rfl rfl ?_
      refine ur_get rfl hc5 rfl ?_
      refine ur_ldI rfl rfl ?_
      obtain ⟨xs125, hc124, hn126, he127⟩ := hO0.int k23.2
      refine ur_aldV rfl hc124 hn126 (by omega) (fun x128 hx129 => ?_)
      have t130 := gI_of (j := a2) hc124 hx129
      have e131 : rP h0 a1 13 = q19 := rP_of (fA_of (k := 13) hc5)
      have tt132 : gI h0 (rP h0 a1 13) a2.toInt = x128.toInt := by rw [e131]; exact t130
      refine ur_ldA rfl rfl ?_
      refine ur_get rfl hc1 rfl ?_
      have z133 := any_r x128
      have z134 := any_r f2
      refine ur_if2 rfl (fun c135 => ?_) (fun c135 => ?_)
      · have t136 := eq_to c135
        refine ur_ldA rfl rfl ?_
        exact ur_ret rfl rfl (hQ _ _ ⟨_, rfl, ⟨k118.1, k118.2⟩, (SOF.m hO0 ⟨g1, t1⟩ (BSq.rf (fA_of (k := 12) hc5)) (by omega))⟩ hO0 un.rf)
      · have t137 := eq_no c135
        refine ur_ldA rfl rfl ?_
        refine ur_get rfl hc5 rfl ?_
        refine ur_ldI rfl rfl ?_
        refine ur_ldA rfl rfl ?_
        refine ur_get rfl hc1 rfl ?_
        refine ur_astV (W := [222, 223, 21212]) (m := 9) rfl hO0 hc124 (by decide) hn126 (by omega) (any_d k23.1 _) (Or.inr (Or.inr (wid_ver k23.1 (by decide)))) (fun h140 hO140 hu140 d138 hc139 => ?_)
        have w141 : wI h0 h140 q19 ((arI h0 q19).set (a2 : Int32).toInt.toNat f2) := ⟨by rw [arI_of hc139, arI_of hc124], d138⟩
        refine ur_ldI rfl rfl ?_
        refine ur_push rfl ?_
        refine ur_binV rfl (fun x142 e143 => ?_)
        have z144 := any_r a2
        have t145 := ti_add e143 (by omega) (by omega)
        refine ur_push rfl ?_
        refine ur_binV rfl (fun x146 e147 => ?_)
        have z148 := any_r x142
        have t149 := ti_mulL e147 l_121 (by omega) (by omega)
        refine ur_push rfl ?_
        refine ur_binV rfl (fun x150 e151 => ?_)
        have z152 := any_r x146
        have t153 := ti_mulL e151 l_8 (by omega) (by omega)
        refine ur_ldA rfl rfl ?_
        obtain ⟨xs155, hc154, hn156⟩ := hO140.lon (hu140.tm k118.2 (by decide))
        refine ur_lenV (m := 8712) rfl hc154 hn156 (by decide) (fun x158 t159 => ?_)
        refine ur_minV rfl (by show ¬ 9 ≤ 2; decide) (fun x160 t161 e162 => ?_)
        refine ur_svIk [some (.inr (.inr (some 8))), some (.inr (.inr (some a1))), some (.inl a2), some (.inr (.inr (some r26))), some (.inl x160), none] rfl rfl ?_
        refine ur_ldI rfl rfl ?_
        refine ur_push rfl ?_
        refine ur_binV rfl (fun x163 e164 => ?_)
        have t165 := ti_mulL e164 l_121 (by omega) (by omega)
        refine ur_push rfl ?_
        refine ur_binV rfl (fun x166 e167 => ?_)
        have z168 := any_r x163
        have t169 := ti_mulL e167 l_8 (by omega) (by omega)
        refine ur_svIk [some (.inr (.inr (some 8))), some (.inr (.inr (some a1))), some (.inl a2), some (.inr (.inr (some r26))), some (.inl x160), some (.inl x166)] rfl rfl ?_
        have t174 := fO_of (k := 4) ((d138 _ (ne_tg (hO140.fix 8 (by decide) rfl) (hu140.tm k23.2 (by decide)) (by decide))).trans hc1) rfl
        have L171 : ∀ (m172 : Nat) (x170 : Int32) (h175 : aH) , OK h175 → un [222, 223, 21212] h140 h175 → ((0 ≤ x170.toInt ∧ x170.toInt ≤ 8712) ∧ 968 * a2.toInt ≤ x170.toInt ∧ x170.toInt ≤ 968 * (a2.toInt + 1)) → (ZRq h140 h175 r26 (968 * a2.toInt) x170.toInt) → ((8713 - x170.toInt).toNat) < m172 → uRun oX5_sightsOf (uCall Mt (d + 2)) Q 76 ([some (.inr (.inr (some 8))), some (.inr (.inr (some a1))), some (.inl a2), some (.inr (.inr (some r26))), some (.inl x160), some (.inl x170)], [], h175, kc, ks) := by
          intro m172
          induction m172 with
          | zero => intro x170 h175 hO175 hu175 iv177 px176 mm178; omega
          | succ m172 ih173 =>
            intro x170 h175 hO175 hu175 iv177 px176 mm178
            obtain ⟨xs180, hc179, hn181⟩ := hO175.lon (hu175.tm (hu140.tm k118.2 (by decide)) (by decide))
            refine ur_ldI rfl rfl ?_
            refine ur_ldI rfl rfl ?_
            have z183 := any_r x170
            have z184 := any_r x160
            refine ur_if2 rfl (fun c185 => ?_) (fun c185 => ?_)
            · have t186 := le_to c185
              refine ur_ldA rfl rfl ?_
              have t187 := fO_of (k := 4) (hu175.ko (n := 5) ((d138 _ (ne_tg (hO140.fix 8 (by decide) rfl) (hu140.tm k23.2 (by decide)) (by decide))).trans hc1) rfl (wid_f (by decide)) (by decide)) rfl
              exact ur_ret rfl rfl (hQ _ _ ⟨_, rfl, ⟨k118.1, (hu175.tm (hu140.tm k118.2 (by decide)) (by decide))⟩, (SOF.z (P := a2) (V := f2) hO0 hO0 ⟨g1, t1⟩ (BSq.rf (fA_of (k := 12) hc5)) (by rw [e131]; exact w141) (by have q := px176; rw [show x170.toInt = 968 * (a2.toInt + 1) by omega] at q; exact q) rfl (by omega) (by omega) (by omega) ⟨k118.1, (ne_tg (hu175.tm (hu140.tm k118.2 (by decide)) (by decide)) (hu175.tm (hu140.tm t1 (by decide)) (by decide)) (by decide)), (by rw [e131]; exact ne_tg (hu175.tm (hu140.tm k118.2 (by decide)) (by decide)) (hu175.tm (hu140.tm k23.2 (by decide)) (by decide)) (by decide))⟩)⟩ hO175 (hu140.tr hu175))
            · have t188 := le_no c185
              refine ur_ldA rfl rfl ?_
              refine ur_ldI rfl rfl ?_
              refine ur_push rfl ?_
              refine ur_astJV (W := [222, 223, 21212]) (m := 8712) rfl hO175 hc179 hn181 (by omega) (Or.inr (Or.inr (wid_sig k118.1 (by decide)))) (fun h191 hO191 hu191 d189 hc190 => ?_)
              have w192 : wJ h175 h191 r26 ((arJ h175 r26).set (x170 : Int32).toInt.toNat 0) := ⟨by rw [arJ_of hc190, arJ_of hc179], d189⟩
              refine ur_incV (fun z => [some (.inr (.inr (some 8))), some (.inr (.inr (some a1))), some (.inl a2), some (.inr (.inr (some r26))), some (.inl x160), some (.inl z)]) rfl rfl (fun _ => rfl) (fun x193 e194 => ?_)
              have t195 := ti_add e194 (by omega) (by omega)
              refine ur_go rfl ?_
              have hc196 := ((d189 _ (ne_tg (hO191.fix 8 (by decide) rfl) (hu191.tm (hu175.tm (hu140.tm k118.2 (by decide)) (by decide)) (by decide)) (by decide))).trans (hu175.ko (n := 5) ((d138 _ (ne_tg (hO140.fix 8 (by decide) rfl) (hu140.tm k23.2 (by decide)) (by decide))).trans hc1) rfl (wid_f (by decide)) (by decide)))
              have t197 := fO_of (k := 4) hc196 rfl
              have z198 := any_r x193
              exact ih173 x193 _ hO191 (hu175.tr hu191) (by omega) (ZRq.s (n := 8712) (j := x170) (x := 0) px176 w192 rfl (by rw [arJ_of hc179]; exact hn181) (by omega) (by omega) (by omega) (by omega)) (by omega)
        have z199 := any_r x166
        exact L171 _ x166 _ hO140 un.rf (by omega) (ZRq.z (by omega)) (Nat.lt_succ_self _)

set_option maxRecDepth 20000 in
set_option maxHeartbeats 4000000 in
theorem sd_X5_seenOn {d kc ks : Nat} {h0 : aH} {Q : Option aV → aH → Prop} {ls : List (List (Int × Int) × List (Int × Int))} {c0 : Int} (hO0 : OK h0) {a1 : Nat} (g1 : 114 ≤ a1) (t1 : tg h0 a1 = (102, 14)) (a2 : Int32) (b2 : 0 ≤ a2.toInt ∧ a2.toInt ≤ 8) (a3 : Int32) (b3 : -60 ≤ a3.toInt ∧ a3.toInt ≤ 60) (a4 : Int32) (b4 : -1000000 ≤ a4.toInt ∧ a4.toInt ≤ 1000000) (a5 : Int32) (b5 : 0 ≤ a5.toInt ∧ a5.toInt ≤ 999999) (pre0 : SKc h0) (pre1 : SGc ls h0) (pre2 : (0 ≤ c0 ∧ c0 < fO h0 1 4) ∧ cz h0 c0 a1) (pre3 : txC h0 9 = cfl 0 ls) (pre4 : ∀ l ∈ ls, lnG l) (pre5 : fO h0 a1 8 ≤ a3.toInt ∧ a3.toInt ≤ fO h0 a1 9) (hQ : ∀ r h', (∃ q, r = some (.inl (bi q)) ∧ (q = true → canP ls (fO h0 a1 2) (fO h0 a1 4) (fO h0 a1 3) (fO h0 a1 5) a2.toInt (cf h0 a1 a3.toInt + a4.toInt) a5.toInt) ∧ (q = false → ¬ canP ls (fO h0 a1 2) (fO h0 a1 4) (fO h0 a1 3) (fO h0 a1 5) a2.toInt (cf h0 a1 a3.toInt + a4.toInt) a5.toInt)) → OK h' → un [222, 223, 21212] h0 h' → (SGc ls h') → Q r h') : uCall Mt (d + 4) 51 [(.inr (.inr (some 8))), (.inr (.inr (some a1))), (.inl a2), (.inl a3), (.inl a4), (.inl a5)] h0 kc ks Q := by
  have l_m120 : ((-120) : Int32).toInt = -120 := by decide
  have l_0 : ((0) : Int32).toInt = 0 := by decide
  have l_1 : ((1) : Int32).toInt = 1 := by decide
  have l_4 : ((4) : Int32).toInt = 4 := by decide
  have l_8 : ((8) : Int32).toInt = 8 := by decide
  have l_15 : ((15) : Int32).toInt = 15 := by decide
  have l_60 : ((60) : Int32).toInt = 60 := by decide
  have l_63 : ((63) : Int32).toInt = 63 := by decide
  have l_64 : ((64) : Int32).toInt = 64 := by decide
  have l_120 : ((120) : Int32).toInt = 120 := by decide
  have l_121 : ((121) : Int32).toInt = 121 := by decide
  refine uc_ink [some (.inr (.inr (some 8))), some (.inr (.inr (some a1))), some (.inl a2), some (.inl a3), some (.inl a4), some (.inl a5), none, none, none, none, none] mt_51 (Nat.le_of_ble_eq_true rfl) rfl ?_
  have cd1 := (pre1.1 c0 a1 pre2.1.1 pre2.1.2 pre2.2).1
  have tt2 : ((txC h0 9).length : Int) = fO h0 9 1 := txC_L hO0 (hO0.fix 9 (by decide) rfl)
  refine ur_ldI rfl rfl ?_
  refine ur_ldA rfl rfl ?_
  refine ur_ldI rfl rfl ?_
  obtain ⟨g23, f4, f5, f6, f7, f8, f9, f10, f11, f12, f13, q14, q15, o16, q17, hc3, k18, k19, k20, k21, k22⟩ := hO0.comet t1
  refine ur_inl rfl (rcv_of hc3) (Nat.le_of_ble_eq_true rfl) (Nat.le_of_ble_eq_true rfl) (sd_X2_passOf hO0 g23 t1 _ (by show -60 ≤ a3.toInt ∧ a3.toInt ≤ 60; omega) (fun w24 hr25 => ?_))
  obtain ⟨x26, rfl, f27⟩ := hr25
  show uRun _ (uCall Mt _) _ 7 (_, [(.inl x26), (.inl a5)], _, _, _)
  have tt28 : x26.toInt = cf h0 a1 a3.toInt := by unfold cf; rw [if_pos (by omega)]; exact f27
  have tt29 := pre0.rg pre2.1 pre2.2 (k := a3.toInt) (by omega)
  refine ur_binV rfl (fun x30 e31 => ?_)
  have z32 := any_r a5
  have z33 := any_r x26
  have t34 := ti_sub e31 (by omega) (by omega)
  refine ur_ldI rfl rfl ?_
  refine ur_binV rfl (fun x35 e36 => ?_)
  have z37 := any_r x30
  have z38 := any_r a4
  have t39 := ti_sub e36 (by omega) (by omega)
  refine ur_svIk [some (.inr (.inr (some 8))), some (.inr (.inr (some a1))), some (.inl a2), some (.inl a3), some (.inl a4), some (.inl a5), some (.inl x35), none, none, none, none] rfl rfl ?_
  refine ur_ldI rfl rfl ?_
  refine ur_callv rfl rfl (Nat.le_of_ble_eq_true rfl) (Nat.le_of_ble_eq_true rfl) rfl (sp_isFar _ _) ?_
  refine ur_neB rfl (fun c42 => ?_) (fun c42 => ?_)
  · have t43 := wi_noL (bnot_f c42) l_m120 l_120
    refine ur_push rfl ?_
    exact ur_ret rfl rfl (hQ _ _ ⟨false, rfl, fun e => absurd e (by decide), fun _ => (fun q => absurd q.1 (by omega))⟩ hO0 un.rf pre1)
  · have t44 := wi_toL (bnot_t c42) l_m120 l_120
    refine ur_ldA rfl rfl ?_
    refine ur_ldI rfl rfl ?_
    refine ur_ldI rfl rfl ?_
    refine ur_inl rfl (rcv_of hc3) (Nat.le_of_ble_eq_true rfl) (Nat.le_of_ble_eq_true rfl) (sd_X2_apartOfSun hO0 g23 t1 _ (by show -120 ≤ x35.toInt ∧ x35.toInt ≤ 120; omega) _ (by show 0 ≤ a5.toInt ∧ a5.toInt ≤ 999999; omega) cd1 (fun w45 hr46 => ?_))
    obtain ⟨x47, rfl, f48⟩ := hr46
    show uRun _ (uCall Mt _) _ 29 (_, [(.inl x47)], _, _, _)
    refine ur_push rfl ?_
    refine ur_if2 rfl (fun c49 => ?_) (fun c49 => ?_)
    · have t50 := le_to c49
      refine ur_ldA rfl rfl ?_
      obtain ⟨f52, hc51, k53⟩ := ok_8 hO0
      refine ur_get rfl hc51 rfl ?_
      obtain ⟨g58, f55, hc54, k56, k57⟩ := hO0.text (hO0.fix 9 (by decide) rfl)
      refine ur_inl rfl (rcv_of hc54) (Nat.le_of_ble_eq_true rfl) (Nat.le_of_ble_eq_true rfl) (st_X9_isTold hO0 (hO0.fix 9 (by decide) rfl) (fun w59 hr60 => ?_))
      obtain ⟨b61, rfl, t62, t63⟩ := hr60
      show uRun _ (uCall Mt _) _ 43 (_, [(.inl (bi b61))], _, _, _)
      refine ur_neB rfl (fun c64 => ?_) (fun c64 => ?_)
      · have t65 := t62 c64
        clear t62 t63
        refine ur_ldA rfl rfl ?_
        refine ur_ldA rfl rfl ?_
        refine ur_ldI rfl rfl ?_
        have t66 := fO_of (k := 4) hc51 rfl
        refine ur_inl rfl (rcv_of hc51) (Nat.le_of_ble_eq_true rfl) (Nat.le_of_ble_eq_true rfl) (sd_X5_sightsOf hO0 g23 t1 _ (by show 0 ≤ a2.toInt ∧ a2.toInt ≤ 8; omega) (fun w67 h69 hr68 hO69 hv69 => ?_))
        have hu69 := hv69
        obtain ⟨r70, rfl, k71, f72⟩ := hr68
        show uRun _ (uCall Mt _) _ 54 (_, [(.inr (.inr (some r70)))], _, _, _)
        obtain ⟨G73, S74⟩ := SOF.st (ls := ls) (k := a3.toInt) (e := x35.toInt) pre1 hO0 pre2.1 pre2.2 f72 k71.1
        have cm75 := f72.cm hO0 ⟨g1, t1⟩ k71.1
        have ca76 := STq.ca G73 S74 (by omega) (by omega) (by omega)
        refine ur_svAk [some (.inr (.inr (some 8))), some (.inr (.inr (some a1))), some (.inl a2), some (.inl a3), some (.inl a4), some (.inl a5), some (.inl x35), some (.inr (.inr (some r70))), none, none, none] rfl rfl ?_
        refine ur_ldI rfl rfl ?_
        refine ur_push rfl ?_
        refine ur_binV rfl (fun x77 e78 => ?_)
        have z79 := any_r a2
        have t80 := ti_mulL e78 l_121 (by omega) (by omega)
        refine ur_ldI rfl rfl ?_
        refine ur_binV rfl (fun x81 e82 => ?_)
        have z83 := any_r x77
        have z84 := any_r a3
        have t85 := ti_add e82 (by omega) (by omega)
        refine ur_push rfl ?_
        refine ur_binV rfl (fun x86 e87 => ?_)
        have z88 := any_r x81
        have t89 := ti_add e87 (by omega) (by omega)
        refine ur_push rfl ?_
        refine ur_binV rfl (fun x90 e91 => ?_)
        have z92 := any_r x86
        have t93 := ti_mulL e91 l_8 (by omega) (by omega)
        refine ur_ldI rfl rfl ?_
        refine ur_push rfl ?_
        refine ur_binV rfl (fun x94 e95 => ?_)
        have z96 := any_r x35
        have t97 := ti_add e95 (by omega) (by omega)
        refine ur_push rfl ?_
        refine ur_divV rfl (by decide) (fun x98 e99 => ?_)
        have z100 := any_r x94
        have t101 := ti_div e99 l_64 (by decide) (by omega)
        refine ur_binV rfl (fun x102 e103 => ?_)
        have z104 := any_r x90
        have z105 := any_r x98
        have t106 := ti_add e103 (by omega) (by omega)
        refine ur_svIk [some (.inr (.inr (some 8))), some (.inr (.inr (some a1))), some (.inl a2), some (.inl a3), some (.inl a4), some (.inl a5), some (.inl x35), some (.inr (.inr (some r70))), some (.inl x102), none, none] rfl rfl ?_
        refine ur_ldI rfl rfl ?_
        refine ur_if1 rfl (fun c107 => ?_) (fun c107 => ?_)
        · have t108 := ne_to c107
          refine ur_ldA rfl rfl ?_
          refine ur_ldA rfl rfl ?_
          refine ur_get rfl (hv69.ko (n := 5) hc51 rfl (wid_f (by decide)) (by decide)) rfl ?_
          refine ur_ldA rfl rfl ?_
          refine ur_ldI rfl rfl ?_
          refine ur_ldI rfl rfl ?_
          refine ur_ldI rfl rfl ?_
          refine ur_inl rfl (rcv_of (hv69.ko (n := 5) hc51 rfl (wid_f (by decide)) (by decide))) (Nat.le_of_ble_eq_true rfl) (Nat.le_of_ble_eq_true rfl) (sd_X5_toldBy hO69 (hO69.fix 9 (by decide) rfl) g23 (hu69.tm t1 (by decide)) _ (by show 0 ≤ a2.toInt ∧ a2.toInt ≤ 8; omega) _ (by show -120 ≤ x35.toInt ∧ x35.toInt ≤ 120; omega) _ (by show 0 ≤ a5.toInt ∧ a5.toInt ≤ 999999; omega) (cd1.un hO0 hu69 g1 t1 (by decide) (by decide)) ((txC_un hO0 hO69 hu69 (by decide) 9 (by decide)).trans pre3) (show 9 ∈ TXQ by decide) pre4 (fun w109 h111 hr110 hO111 hv111 => ?_))
          have hu111 : un [222, 223, 21212] h69 h111 := hv111.mono (by decide)
          obtain ⟨x112, rfl, f113⟩ := hr110
          show uRun _ (uCall Mt _) _ 113 (_, [(.inl x112)], _, _, _)
          have tv114 : x112.toInt = tdV ls (fO h0 a1 2) (fO h0 a1 4) (fO h0 a1 3) (fO h0 a1 5) a2.toInt x35.toInt a5.toInt := by have q := f113; rw [fO_eA (fC_un hO0 hu69 g1 t1 (k := 2) (by decide) (by decide)), fO_eA (fC_un hO0 hu69 g1 t1 (k := 3) (by decide) (by decide)), fO_eA (fC_un hO0 hu69 g1 t1 (k := 4) (by decide) (by decide)), fO_eA (fC_un hO0 hu69 g1 t1 (k := 5) (by decide) (by decide))] at q; exact q
          refine ur_if1 rfl (fun c115 => ?_) (fun c115 => ?_)
          · have t116 := eq_to c115
            refine ur_push rfl ?_
            exact ur_ret rfl rfl (hQ _ _ ⟨false, rfl, fun e => absurd e (by decide), fun _ => (fun q => q.2.2.elim (fun w => by rw [w] at pre3; rw [pre3] at tt2; have z : (0 : Int) = _ := tt2; omega) (fun w => by rw [show a5.toInt - (cf h0 a1 a3.toInt + a4.toInt) = x35.toInt by omega, ← tv114] at w; omega))⟩ hO111 (hu69.tr hu111) (G73.un hO69 hv111 (by decide) (fO_keep (a := 1) (ci := 6) (n := 5) (k := 4) hO69 hO111 hv111 (by decide) rfl (by decide) rfl (by decide)) (fO_keep (a := 8) (ci := 5) (n := 5) (k := 4) hO69 hO111 hv111 (by decide) rfl (by decide) rfl (by decide)) : SGc ls h111))
          · have t117 := eq_no c115
            refine ur_push rfl ?_
            refine ur_go rfl ?_
            exact ur_ret rfl rfl (hQ _ _ ⟨true, rfl, fun _ => ⟨by omega, (by have w := f48.1; rw [show a5.toInt - (cf h0 a1 a3.toInt + a4.toInt) = x35.toInt by omega]; omega), Or.inr (by rw [show a5.toInt - (cf h0 a1 a3.toInt + a4.toInt) = x35.toInt by omega, ← tv114]; omega)⟩, fun e => absurd e (by decide)⟩ hO111 (hu69.tr hu111) (G73.un hO69 hv111 (by decide) (fO_keep (a := 1) (ci := 6) (n := 5) (k := 4) hO69 hO111 hv111 (by decide) rfl (by decide) rfl (by decide)) (fO_keep (a := 8) (ci := 5) (n := 5) (k := 4) hO69 hO111 hv111 (by decide) rfl (by decide) rfl (by decide)) : SGc ls h111))
        · have t118 := ne_no c107
          refine ur_ldI rfl rfl ?_
          refine ur_if1 rfl (fun c119 => ?_) (fun c119 => ?_)
          · have t120 := lt_to c119
            exfalso
            omega
          · have t121 := lt_no c119
            refine ur_ldI rfl rfl ?_
            refine ur_push rfl ?_
            refine ur_binV rfl (fun x122 e123 => ?_)
            have z124 := any_r x102
            have t125 := ti_add e123 (by omega) (by omega)
            refine ur_ldA rfl rfl ?_
            obtain ⟨xs127, hc126, hn128⟩ := hO69.lon k71.2
            refine ur_lenV (m := 8712) rfl hc126 hn128 (by decide) (fun x130 t131 => ?_)
            have z132 := any_r x122
            have z133 := any_r x130
            refine ur_if2 rfl (fun c134 => ?_) (fun c134 => ?_)
            · have t135 := lt_to c134
              refine ur_push rfl ?_
              refine ur_ldI rfl rfl ?_
              refine ur_push rfl ?_
              refine ur_binV rfl (fun x136 e137 => ?_)
              have t138 := ti_add e137 (by omega) (by omega)
              refine ur_push rfl ?_
              refine ur_binV rfl (fun x139 e140 => ?_)
              have tt141 := and_63 e140 (by omega)
              have tt142 : x139.toInt = (x35.toInt + 120) % 64 := by omega
              refine ur_shJV rfl (fun y143 e144 => ?_)
              have hb145 : y143.toBitVec = BitVec.twoPow 64 ((x35.toInt + 120) % 64).toNat := by have q := bit_e e144 (by omega); rw [show x139.toInt = (x35.toInt + 120) % 64 by omega] at q; exact q
              refine ur_svJk [some (.inr (.inr (some 8))), some (.inr (.inr (some a1))), some (.inl a2), some (.inl a3), some (.inl a4), some (.inl a5), some (.inl x35), some (.inr (.inr (some r70))), some (.inl x102), some (.inr (.inl y143)), none] rfl rfl ?_
              refine ur_ldA rfl rfl ?_
              refine ur_ldI rfl rfl ?_
              refine ur_aldJV rfl hc126 hn128 (by omega) (fun y146 hx147 => ?_)
              have g148 := gL_of (j := x102) hc126 hx147
              refine ur_ldJ rfl rfl ?_
              refine ur_binJV rfl (fun y149 e150 => ?_)
              refine ur_push rfl ?_
              refine ur_cmpJV rfl (fun x151 e152 => ?_)
              have tb153 := lcz e150 e152 hb145 (by omega)
              refine ur_if1 rfl (fun c154 => ?_) (fun c154 => ?_)
              · have t155 := ne_to c154
                have kk157 : tb (gL h69 r70 (968 * a2.toInt + (bix a3.toInt x35.toInt + 0))) ((x35.toInt + 120) % 64) := by rw [← (show x102.toInt = 968 * a2.toInt + (bix a3.toInt x35.toInt + 0) by unfold bix; omega), g148]; exact Classical.byContradiction fun q => absurd (tb153.mpr q) (by omega)
                have fin158 : tb (gL h69 r70 (968 * a2.toInt + (bix a3.toInt x35.toInt + 4))) ((x35.toInt + 120) % 64) ↔ tdV ls (fO h0 a1 2) (fO h0 a1 4) (fO h0 a1 3) (fO h0 a1 5) a2.toInt x35.toInt a5.toInt ≠ 0 := by have u := cm75.2.2.2 c0 a1 pre2.1.1 pre2.1.2 pre2.2; have q := ca76.2 kk157 (by rw [fO_eA (u.1 8 (by decide) (by decide))]; omega) (by rw [fO_eA (u.1 9 (by decide) (by decide))]; omega); rw [fO_eA (u.1 2 (by decide) (by decide)), fO_eA (u.1 3 (by decide) (by decide)), fO_eA (u.1 4 (by decide) (by decide)), fO_eA (u.1 5 (by decide) (by decide)), u.2.2, show cf h0 a1 a3.toInt + x35.toInt = a5.toInt by omega] at q; exact q
                refine ur_ldA rfl rfl ?_
                refine ur_ldI rfl rfl ?_
                refine ur_push rfl ?_
                refine ur_binV rfl (fun x159 e160 => ?_)
                have t161 := ti_add e160 (by omega) (by omega)
                refine ur_aldJV rfl hc126 hn128 (by omega) (fun y162 hx163 => ?_)
                have g164 := gL_of (j := x159) hc126 hx163
                refine ur_ldJ rfl rfl ?_
                refine ur_binJV rfl (fun y165 e166 => ?_)
                refine ur_push rfl ?_
                refine ur_cmpJV rfl (fun x167 e168 => ?_)
                have tb169 := lcz e166 e168 hb145 (by omega)
                have yy170 := tb169
                rw [← g164, (show x159.toInt = 968 * a2.toInt + (bix a3.toInt x35.toInt + 4) by unfold bix; omega), fin158] at yy170
                refine ur_if1 rfl (fun c171 => ?_) (fun c171 => ?_)
                · have t172 := eq_to c171
                  refine ur_push rfl ?_
                  exact ur_ret rfl rfl (hQ _ _ ⟨false, rfl, fun e => absurd e (by decide), fun _ => (fun q => q.2.2.elim (fun w => by rw [w] at pre3; rw [pre3] at tt2; have z : (0 : Int) = _ := tt2; omega) (fun w => by rw [show a5.toInt - (cf h0 a1 a3.toInt + a4.toInt) = x35.toInt by omega] at w; exact (yy170.mp (by omega)) w))⟩ hO69 hu69 G73)
                · have t173 := eq_no c171
                  refine ur_push rfl ?_
                  refine ur_go rfl ?_
                  exact ur_ret rfl rfl (hQ _ _ ⟨true, rfl, fun _ => ⟨by omega, (by have w := f48.1; rw [show a5.toInt - (cf h0 a1 a3.toInt + a4.toInt) = x35.toInt by omega]; omega), Or.inr (by rw [show a5.toInt - (cf h0 a1 a3.toInt + a4.toInt) = x35.toInt by omega]; exact Classical.byContradiction fun q => absurd (yy170.mpr q) (by omega))⟩, fun e => absurd e (by decide)⟩ hO69 hu69 G73)
              · have t174 := ne_no c154
                have nk175 : ¬ tb (gL h69 r70 (968 * a2.toInt + (bix a3.toInt x35.toInt + 0))) ((x35.toInt + 120) % 64) := by rw [← (show x102.toInt = 968 * a2.toInt + (bix a3.toInt x35.toInt + 0) by unfold bix; omega), g148]; exact tb153.mp (by omega)
                refine ur_ldA rfl rfl ?_
                refine ur_ldI rfl rfl ?_
                refine ur_dup2 rfl rfl rfl ?_
                refine ur_aldJV rfl hc126 hn128 (by omega) (fun y176 hx177 => ?_)
                have g178 := gL_of (j := x102) hc126 hx177
                refine ur_ldJ rfl rfl ?_
                refine ur_binJV rfl (fun y179 e180 => ?_)
                refine ur_astJV (W := [222, 223, 21212]) (m := 8712) rfl hO69 hc126 hn128 (by omega) (Or.inr (Or.inr (wid_sig k71.1 (by decide)))) (fun h183 hO183 hu183 d181 hc182 => ?_)
                have w184 : wJ h69 h183 r70 ((arJ h69 r70).set (x102 : Int32).toInt.toNat y179) := ⟨by rw [arJ_of hc182, arJ_of hc126], d181⟩
                obtain ⟨b185, b186, b187⟩ := S74.b hO69 w184 e180 (show x102.toInt = 968 * a2.toInt + (bix a3.toInt x35.toInt + 0) by unfold bix; omega) g178 hb145 (Or.inl rfl) (by omega) (by omega) (by omega)
                refine ur_ldA rfl rfl ?_
                refine ur_ldA rfl rfl ?_
                refine ur_get rfl ((d181 _ (ne_tg (hO183.fix 8 (by decide) rfl) (hu183.tm k71.2 (by decide)) (by decide))).trans (hv69.ko (n := 5) hc51 rfl (wid_f (by decide)) (by decide))) rfl ?_
                refine ur_ldA rfl rfl ?_
                refine ur_ldI rfl rfl ?_
                refine ur_ldI rfl rfl ?_
                refine ur_ldI rfl rfl ?_
                refine ur_inl rfl (rcv_of ((d181 _ (ne_tg (hO183.fix 8 (by decide) rfl) (hu183.tm k71.2 (by decide)) (by decide))).trans (hv69.ko (n := 5) hc51 rfl (wid_f (by decide)) (by decide)))) (Nat.le_of_ble_eq_true rfl) (Nat.le_of_ble_eq_true rfl) (sd_X5_toldBy hO183 (hO183.fix 9 (by decide) rfl) g23 (hu183.tm (hu69.tm t1 (by decide)) (by decide)) _ (by show 0 ≤ a2.toInt ∧ a2.toInt ≤ 8; omega) _ (by show -120 ≤ x35.toInt ∧ x35.toInt ≤ 120; omega) _ (by show 0 ≤ a5.toInt ∧ a5.toInt ≤ 999999; omega) (cd1.un hO0 (hu69.tr hu183) g1 t1 (by decide) (by decide)) ((txC_un hO0 hO183 (hu69.tr hu183) (by decide) 9 (by decide)).trans pre3) (show 9 ∈ TXQ by decide) pre4 (fun w188 h190 hr189 hO190 hv190 => ?_))
                have hu190 : un [222, 223, 21212] h183 h190 := hv190.mono (by decide)
                obtain ⟨x191, rfl, f192⟩ := hr189
                show uRun _ (uCall Mt _) _ 171 (_, [(.inl x191)], _, _, _)
                have U193 := b185.un hO183 hv190 (by decide) (fO_keep (a := 1) (ci := 6) (n := 5) (k := 4) hO183 hO190 hv190 (by decide) rfl (by decide) rfl (by decide)) (fO_keep (a := 8) (ci := 5) (n := 5) (k := 4) hO183 hO190 hv190 (by decide) rfl (by decide) rfl (by decide))
                have tv194 : x191.toInt = tdV ls (fO h0 a1 2) (fO h0 a1 4) (fO h0 a1 3) (fO h0 a1 5) a2.toInt x35.toInt a5.toInt := by have q := f192; rw [fO_eA (fC_un hO0 (hu69.tr hu183) g1 t1 (k := 2) (by decide) (by decide)), fO_eA (fC_un hO0 (hu69.tr hu183) g1 t1 (k := 3) (by decide) (by decide)), fO_eA (fC_un hO0 (hu69.tr hu183) g1 t1 (k := 4) (by decide) (by decide)), fO_eA (fC_un hO0 (hu69.tr hu183) g1 t1 (k := 5) (by decide) (by decide))] at q; exact q
                refine ur_if1 rfl (fun c195 => ?_) (fun c195 => ?_)
                · have t196 := eq_to c195
                  have fin198 : tb (gL h190 r70 (968 * a2.toInt + (bix a3.toInt x35.toInt + 4))) ((x35.toInt + 120) % 64) ↔ tdV ls (fO h0 a1 2) (fO h0 a1 4) (fO h0 a1 3) (fO h0 a1 5) a2.toInt x35.toInt a5.toInt ≠ 0 := by rw [U193.2, b187 4 (Or.inr rfl) (by decide)]; exact ⟨fun q => absurd (ca76.1 q) nk175, fun q => by omega⟩
                  have G197 : SGc ls h190 := U193.1.cl (by rw [U193.2]; exact b186) (fun _ _ => by rw [fO_eA (fC_un hO0 (hu69.tr (hu183.tr hu190)) g1 t1 (k := 2) (by decide) (by decide)), fO_eA (fC_un hO0 (hu69.tr (hu183.tr hu190)) g1 t1 (k := 3) (by decide) (by decide)), fO_eA (fC_un hO0 (hu69.tr (hu183.tr hu190)) g1 t1 (k := 4) (by decide) (by decide)), fO_eA (fC_un hO0 (hu69.tr (hu183.tr hu190)) g1 t1 (k := 5) (by decide) (by decide)), (cf_un hO0 (hu69.tr (hu183.tr hu190)) g1 t1 (by decide)), show cf h0 a1 a3.toInt + x35.toInt = a5.toInt by omega]; exact fin198)
                  refine ur_ldA rfl rfl ?_
                  refine ur_ldI rfl rfl ?_
                  refine ur_push rfl ?_
                  refine ur_binV rfl (fun x199 e200 => ?_)
                  have t201 := ti_add e200 (by omega) (by omega)
                  obtain ⟨xs203, hc202, hn204⟩ := hO190.lon (hu190.tm (hu183.tm k71.2 (by decide)) (by decide))
                  refine ur_aldJV rfl hc202 hn204 (by omega) (fun y206 hx207 => ?_)
                  have g208 := gL_of (j := x199) hc202 hx207
                  refine ur_ldJ rfl rfl ?_
                  refine ur_binJV rfl (fun y209 e210 => ?_)
                  refine ur_push rfl ?_
                  refine ur_cmpJV rfl (fun x211 e212 => ?_)
                  have tb213 := lcz e210 e212 hb145 (by omega)
                  have yy214 := tb213
                  rw [← g208, (show x199.toInt = 968 * a2.toInt + (bix a3.toInt x35.toInt + 4) by unfold bix; omega), fin198] at yy214
                  refine ur_if1 rfl (fun c215 => ?_) (fun c215 => ?_)
                  · have t216 := eq_to c215
                    refine ur_push rfl ?_
                    exact ur_ret rfl rfl (hQ _ _ ⟨false, rfl, fun e => absurd e (by decide), fun _ => (fun q => q.2.2.elim (fun w => by rw [w] at pre3; rw [pre3] at tt2; have z : (0 : Int) = _ := tt2; omega) (fun w => by rw [show a5.toInt - (cf h0 a1 a3.toInt + a4.toInt) = x35.toInt by omega] at w; exact (yy214.mp (by omega)) w))⟩ hO190 (hu69.tr (hu183.tr hu190)) G197)
                  · have t217 := eq_no c215
                    refine ur_push rfl ?_
                    refine ur_go rfl ?_
                    exact ur_ret rfl rfl (hQ _ _ ⟨true, rfl, fun _ => ⟨by omega, (by have w := f48.1; rw [show a5.toInt - (cf h0 a1 a3.toInt + a4.toInt) = x35.toInt by omega]; omega), Or.inr (by rw [show a5.toInt - (cf h0 a1 a3.toInt + a4.toInt) = x35.toInt by omega]; exact Classical.byContradiction fun q => absurd (yy214.mpr q) (by omega))⟩, fun e => absurd e (by decide)⟩ hO190 (hu69.tr (hu183.tr hu190)) G197)
                · have t218 := eq_no c195
                  refine ur_ldA rfl rfl ?_
                  refine ur_ldI rfl rfl ?_
                  refine ur_push rfl ?_
                  refine ur_binV rfl (fun x219 e220 => ?_)
                  have t221 := ti_add e220 (by omega) (by omega)
                  refine ur_dup2 rfl rfl rfl ?_
                  obtain ⟨xs223, hc222, hn224⟩ := hO190.lon (hu190.tm (hu183.tm k71.2 (by decide)) (by decide))
                  refine ur_aldJV rfl hc222 hn224 (by omega) (fun y226 hx227 => ?_)
                  have g228 := gL_of (j := x219) hc222 hx227
                  refine ur_ldJ rfl rfl ?_
                  refine ur_binJV rfl (fun y229 e230 => ?_)
                  refine ur_astJV (W := [222, 223, 21212]) (m := 8712) rfl hO190 hc222 hn224 (by omega) (Or.inr (Or.inr (wid_sig k71.1 (by decide)))) (fun h233 hO233 hu233 d231 hc232 => ?_)
                  have w234 : wJ h190 h233 r70 ((arJ h190 r70).set (x219 : Int32).toInt.toNat y229) := ⟨by rw [arJ_of hc232, arJ_of hc222], d231⟩
                  obtain ⟨b237, b238, b239⟩ := U193.1.b hO190 w234 e230 (show x219.toInt = 968 * a2.toInt + (bix a3.toInt x35.toInt + 4) by unfold bix; omega) g228 hb145 (Or.inr rfl) (by omega) (by omega) (by omega)
                  have fin236 : tb (gL h233 r70 (968 * a2.toInt + (bix a3.toInt x35.toInt + 4))) ((x35.toInt + 120) % 64) ↔ tdV ls (fO h0 a1 2) (fO h0 a1 4) (fO h0 a1 3) (fO h0 a1 5) a2.toInt x35.toInt a5.toInt ≠ 0 := ⟨fun _ => by omega, fun _ => b238⟩
                  have G235 : SGc ls h233 := b237.cl (by rw [b239 0 (Or.inl rfl) (by decide), U193.2]; exact b186) (fun _ _ => by rw [fO_eA (fC_un hO0 (hu69.tr (hu183.tr (hu190.tr hu233))) g1 t1 (k := 2) (by decide) (by decide)), fO_eA (fC_un hO0 (hu69.tr (hu183.tr (hu190.tr hu233))) g1 t1 (k := 3) (by decide) (by decide)), fO_eA (fC_un hO0 (hu69.tr (hu183.tr (hu190.tr hu233))) g1 t1 (k := 4) (by decide) (by decide)), fO_eA (fC_un hO0 (hu69.tr (hu183.tr (hu190.tr hu233))) g1 t1 (k := 5) (by decide) (by decide)), (cf_un hO0 (hu69.tr (hu183.tr (hu190.tr hu233))) g1 t1 (by decide)), show cf h0 a1 a3.toInt + x35.toInt = a5.toInt by omega]; exact fin236)
                  refine ur_ldA rfl rfl ?_
                  refine ur_ldI rfl rfl ?_
                  refine ur_push rfl ?_
                  refine ur_binV rfl (fun x240 e241 => ?_)
                  have t242 := ti_add e241 (by omega) (by omega)
                  refine ur_aldJV rfl hc232 ((List.length_set ..).trans hn224) (by omega) (fun y243 hx244 => ?_)
                  have g245 := gL_of (j := x240) hc232 hx244
                  refine ur_ldJ rfl rfl ?_
                  refine ur_binJV rfl (fun y246 e247 => ?_)
                  refine ur_push rfl ?_
                  refine ur_cmpJV rfl (fun x248 e249 => ?_)
                  have tb250 := lcz e247 e249 hb145 (by omega)
                  have yy251 := tb250
                  rw [← g245, (show x240.toInt = 968 * a2.toInt + (bix a3.toInt x35.toInt + 4) by unfold bix; omega), fin236] at yy251
                  refine ur_if1 rfl (fun c252 => ?_) (fun c252 => ?_)
                  · have t253 := eq_to c252
                    refine ur_push rfl ?_
                    exact ur_ret rfl rfl (hQ _ _ ⟨false, rfl, fun e => absurd e (by decide), fun _ => (fun q => q.2.2.elim (fun w => by rw [w] at pre3; rw [pre3] at tt2; have z : (0 : Int) = _ := tt2; omega) (fun w => by rw [show a5.toInt - (cf h0 a1 a3.toInt + a4.toInt) = x35.toInt by omega] at w; exact (yy251.mp (by omega)) w))⟩ hO233 (hu69.tr (hu183.tr (hu190.tr hu233))) G235)
                  · have t254 := eq_no c252
                    refine ur_push rfl ?_
                    refine ur_go rfl ?_
                    exact ur_ret rfl rfl (hQ _ _ ⟨true, rfl, fun _ => ⟨by omega, (by have w := f48.1; rw [show a5.toInt - (cf h0 a1 a3.toInt + a4.toInt) = x35.toInt by omega]; omega), Or.inr (by rw [show a5.toInt - (cf h0 a1 a3.toInt + a4.toInt) = x35.toInt by omega]; exact Classical.byContradiction fun q => absurd (yy251.mpr q) (by omega))⟩, fun e => absurd e (by decide)⟩ hO233 (hu69.tr (hu183.tr (hu190.tr hu233))) G235)
            · have t255 := lt_no c134
              exfalso
              omega
      · have t256 := t63 c64
        clear t62 t63
        refine ur_push rfl ?_
        exact ur_ret rfl rfl (hQ _ _ ⟨true, rfl, fun _ => ⟨by omega, (by have w := f48.1; rw [show a5.toInt - (cf h0 a1 a3.toInt + a4.toInt) = x35.toInt by omega]; omega), Or.inl (cfl_nil.mp (pre3.symm.trans (List.length_eq_zero_iff.mp (by omega))))⟩, fun e => absurd e (by decide)⟩ hO0 un.rf pre1)
    · have t257 := le_no c49
      refine ur_push rfl ?_
      exact ur_ret rfl rfl (hQ _ _ ⟨false, rfl, fun e => absurd e (by decide), fun _ => (fun q => absurd q.2.1 (by rw [show a5.toInt - (cf h0 a1 a3.toInt + a4.toInt) = x35.toInt by omega]; have w := f48.1; omega))⟩ hO0 un.rf pre1)
end SG3
