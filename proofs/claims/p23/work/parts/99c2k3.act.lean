/-! ACTS, printed by program but for its head -/
section ACT
/-- the body of an act for a kind: its own, or that of the next kind above that has one -/
def bodyOf0 (k a : Int) : Int := if k < 0 then 0 else ([1, 10, 11, 2, 1, 20, 11, 2, 1, 10, 30, 2, 40, 10, 11, 2, 1, 10, 50, 2, 1, 10, 11, 60, 1, 70, 11, 2, 80, 10, 30, 81] : List Int).getD (k * 4 + a).toNat 0
noncomputable def bodyOf : Int → Int → Int := Classical.choose (⟨bodyOf0, rfl⟩ : ∃ f, f = bodyOf0)
theorem bodyOf_eq (k a : Int) : bodyOf k a = bodyOf0 k a := by
  have h : bodyOf = bodyOf0 := Classical.choose_spec (⟨bodyOf0, rfl⟩ : ∃ f, f = bodyOf0)
  rw [h]
theorem bo_o {k a : Int} (h : k < 0 ∨ 7 < k) (h1 : 0 ≤ a ∧ a ≤ 3) : bodyOf k a = 0 := by
  rw [bodyOf_eq]
  unfold bodyOf0
  by_cases q : k < 0
  · rw [if_pos q]
  · rw [if_neg q, List.getD_eq_getElem?_getD, List.getElem?_eq_none (by show 32 ≤ (k * 4 + a).toNat; omega)]
    rfl
theorem i_of {x c : Int32} (h : x.toInt = c.toInt) : x = c := Int32.toInt_inj.mp h
theorem i07 {x : Int32} (h : 0 ≤ x.toInt ∧ x.toInt ≤ 7) : x = 0 ∨ x = 1 ∨ x = 2 ∨ x = 3 ∨ x = 4 ∨ x = 5 ∨ x = 6 ∨ x = 7 := by
  rcases (show x.toInt = (0 : Int32).toInt ∨ x.toInt = (1 : Int32).toInt ∨ x.toInt = (2 : Int32).toInt ∨ x.toInt = (3 : Int32).toInt ∨ x.toInt = (4 : Int32).toInt ∨ x.toInt = (5 : Int32).toInt ∨ x.toInt = (6 : Int32).toInt ∨ x.toInt = (7 : Int32).toInt by
    rw [show (0 : Int32).toInt = 0 by decide, show (1 : Int32).toInt = 1 by decide, show (2 : Int32).toInt = 2 by decide, show (3 : Int32).toInt = 3 by decide, show (4 : Int32).toInt = 4 by decide, show (5 : Int32).toInt = 5 by decide, show (6 : Int32).toInt = 6 by decide, show (7 : Int32).toInt = 7 by decide]
    omega) with q | q | q | q | q | q | q | q
  · exact Or.inl (i_of q)
  · exact Or.inr (Or.inl (i_of q))
  · exact Or.inr (Or.inr (Or.inl (i_of q)))
  · exact Or.inr (Or.inr (Or.inr (Or.inl (i_of q))))
  · exact Or.inr (Or.inr (Or.inr (Or.inr (Or.inl (i_of q)))))
  · exact Or.inr (Or.inr (Or.inr (Or.inr (Or.inr (Or.inl (i_of q))))))
  · exact Or.inr (Or.inr (Or.inr (Or.inr (Or.inr (Or.inr (Or.inl (i_of q)))))))
  · exact Or.inr (Or.inr (Or.inr (Or.inr (Or.inr (Or.inr (Or.inr (i_of q)))))))
theorem i03 {x : Int32} (h : 0 ≤ x.toInt ∧ x.toInt ≤ 3) : x = 0 ∨ x = 1 ∨ x = 2 ∨ x = 3 := by
  rcases i07 (x := x) (by omega) with q | q | q | q | q | q | q | q
  · exact Or.inl q
  · exact Or.inr (Or.inl q)
  · exact Or.inr (Or.inr (Or.inl q))
  · exact Or.inr (Or.inr (Or.inr q))
  · subst q; exact absurd h (by decide)
  · subst q; exact absurd h (by decide)
  · subst q; exact absurd h (by decide)
  · subst q; exact absurd h (by decide)
theorem abv_e {x z : Int32} (h : 0 ≤ x.toInt ∧ x.toInt ≤ 7) (e : lAb.getD x.toInt.toNat 0 = z) : (x.toInt = 0 → z.toInt = -1) ∧ ((1 ≤ x.toInt ∧ x.toInt ≤ 5) → z.toInt = 0) ∧ (x.toInt = 6 → z.toInt = 1) ∧ (x.toInt = 7 → z.toInt = 2) := by
  rcases i07 h with q | q | q | q | q | q | q | q <;> subst q <;> subst e <;> decide
theorem bo_t {x y z : Int32} (h : 0 ≤ x.toInt ∧ x.toInt ≤ 7) (h1 : 0 ≤ y.toInt ∧ y.toInt ≤ 3) (e : lBo.getD (x * 4 + y).toInt.toNat 0 = z) : z.toInt ≠ 0 → bodyOf x.toInt y.toInt = z.toInt := by
  rw [bodyOf_eq]
  rcases i07 h with q | q | q | q | q | q | q | q <;> subst q <;> rcases i03 h1 with p | p | p | p <;> subst p <;> subst e <;> decide
theorem bo_f {x y z : Int32} {u : Int} (h : 0 ≤ x.toInt ∧ x.toInt ≤ 7) (h1 : 0 ≤ y.toInt ∧ y.toInt ≤ 3) (e : lBo.getD (x * 4 + y).toInt.toNat 0 = z) (hu : (x.toInt = 0 → u = -1) ∧ ((1 ≤ x.toInt ∧ x.toInt ≤ 5) → u = 0) ∧ (x.toInt = 6 → u = 1) ∧ (x.toInt = 7 → u = 2)) : z.toInt = 0 → bodyOf x.toInt y.toInt = bodyOf u y.toInt := by
  rw [bodyOf_eq, bodyOf_eq]
  have e2 : u = if x.toInt = 0 then -1 else if x.toInt ≤ 5 then 0 else if x.toInt = 6 then 1 else 2 := by
    split
    · omega
    · split
      · omega
      · split <;> omega
  subst e2
  rcases i07 h with q | q | q | q | q | q | q | q <;> subst q <;> rcases i03 h1 with p | p | p | p <;> subst p <;> subst e <;> decide
/-- what a body answers, and the bodies that run, by the answers of those that it calls -/
def bB (own : Int) (num mo : Int32) (r : Int → Int → Int32 → Int32 × List Int) (b : Int) (x : Int32) : Int32 × List Int :=
  if b = 1 then (x + num, [1]) else if b = 2 then ((r own 1 x).1 + (r own 2 1).1, 2 :: ((r own 1 x).2 ++ (r own 2 1).2)) else if b = 10 then ((r own 0 x).1 * 2, 10 :: (r own 0 x).2) else if b = 11 then (x ^^^ num, [11]) else if b = 20 then ((r 0 1 x).1 + mo, 20 :: (r 0 1 x).2) else if b = 30 then ((r 0 2 x).1 * 3, 30 :: (r 0 2 x).2) else if b = 40 then ((r 0 0 x).1 - 1, 40 :: (r 0 0 x).2) else if b = 50 then (-(r 0 2 x).1, 50 :: (r 0 2 x).2) else if b = 60 then ((r 0 3 x).1 ^^^ 7, 60 :: (r 0 3 x).2) else if b = 70 then ((r 1 1 x).1 - (r own 2 2).1, 70 :: ((r 1 1 x).2 ++ (r own 2 2).2)) else if b = 80 then ((r 2 0 (x + 1)).1, 80 :: (r 2 0 (x + 1)).2) else if b = 81 then ((r 2 3 x).1 * 2, 81 :: (r 2 3 x).2) else (0, [b])
def cB (own : Int) (num mo : Int32) : Nat → Int → Int → Int32 → Int32 × List Int
  | 0 => fun _ _ _ => (0, [])
  | n + 1 => fun k a x => if bodyOf0 k a = 0 then (0, []) else bB own num mo (cB own num mo n) (bodyOf0 k a) x
/-- the trace has become longer by a list; its first 24 are kept in an array -/
def TRa (a : Nat) (n0 n1 : Int) (h h' : aH) (L : List Int) : Prop := n1 = n0 + (L.length : Int) ∧ ∀ k : Int, 0 ≤ k → k < 24 → gI h' a k = if n0 ≤ k ∧ k < n1 then L.getD (k - n0).toNat 0 else gI h a k
theorem TRa.nil {a : Nat} {n : Int} {h : aH} : TRa a n n h h [] := ⟨by show n = n + 0; omega, fun k _ _ => by rw [if_neg (by omega)]⟩
theorem TRa.app {a : Nat} {n0 n1 n2 : Int} {h h1 h2 : aH} {L M : List Int} (f : TRa a n0 n1 h h1 L) (g : TRa a n1 n2 h1 h2 M) : TRa a n0 n2 h h2 (L ++ M) := by
  obtain ⟨f1, f2⟩ := f
  obtain ⟨g1, g2⟩ := g
  refine ⟨by rw [List.length_append]; omega, fun k k0 k1 => ?_⟩
  rw [g2 k k0 k1]
  by_cases q : n1 ≤ k ∧ k < n2
  · rw [if_pos q, if_pos (by omega), List.getD_eq_getElem?_getD, List.getD_eq_getElem?_getD, List.getElem?_append_right (by omega), show (k - n0).toNat - L.length = (k - n1).toNat by omega]
  · rw [if_neg q, f2 k k0 k1]
    by_cases p : n0 ≤ k ∧ k < n1
    · rw [if_pos p, if_pos (by omega), List.getD_eq_getElem?_getD, List.getD_eq_getElem?_getD, List.getElem?_append_left (by omega)]
    · rw [if_neg p, if_neg (by omega)]
theorem TRa.cons {a : Nat} {n0 n1 n2 : Int} {h h1 h2 : aH} {b : Int} {M : List Int} (f : TRa a n0 n1 h h1 [b]) (g : TRa a n1 n2 h1 h2 M) : TRa a n0 n2 h h2 (b :: M) := f.app g
theorem TRa.c {a : Nat} {n0 n1 : Int} {h h1 : aH} {L M : List Int} (f : TRa a n0 n1 h h1 L) (e : M = L) : TRa a n0 n1 h h1 M := e ▸ f
theorem TRa.one {a : Nat} {n0 n1 : Int} {h h' : aH} {v : Int32} (hl : (arI h a).length = 24) (h0 : 0 ≤ n0) (h1 : n1 = n0 + 1) (w : n0 < 24 → arI h' a = (arI h a).set n0.toNat v) (w2 : 24 ≤ n0 → arI h' a = arI h a) : TRa a n0 n1 h h' [v.toInt] := by
  refine ⟨by show n1 = n0 + 1; exact h1, fun k k0 k1 => ?_⟩
  unfold gI
  by_cases q : n0 < 24
  · rw [w q]
    by_cases p : k = n0
    · rw [if_pos (by omega), p, List.getD_eq_getElem?_getD, List.getElem?_set_self (by omega), show (n0 - n0).toNat = 0 by omega]
      rfl
    · rw [if_neg (by omega), List.getD_eq_getElem?_getD, List.getElem?_set_ne (by omega), ← List.getD_eq_getElem?_getD]
  · rw [w2 (by omega), if_neg (by omega)]
theorem TRa.k {a : Nat} {n0 n1 : Int} {h h' h2 : aH} {L : List Int} (f : TRa a n0 n1 h h' L) (e : arI h2 a = arI h' a) : TRa a n0 n1 h h2 L := ⟨f.1, fun k k0 k1 => by unfold gI; rw [e]; exact f.2 k k0 k1⟩
theorem cB_t {own : Int} {num mo : Int32} {n : Nat} {k a b : Int} {x : Int32} (h : bodyOf k a = b) (hb : b ≠ 0) : cB own num mo (n + 1) k a x = bB own num mo (cB own num mo n) b x := by
  rw [bodyOf_eq] at h
  show (if bodyOf0 k a = 0 then _ else _) = _
  rw [h, if_neg hb]
theorem cB_f {own : Int} {num mo : Int32} {n : Nat} {k a : Int} {x : Int32} (h : bodyOf k a = 0) : cB own num mo (n + 1) k a x = (0, []) := by
  rw [bodyOf_eq] at h
  show (if bodyOf0 k a = 0 then _ else _) = _
  rw [if_pos h]
theorem fA_inj {h : aH} {z k : Nat} {x y : Int32} (a : fA h z k = some (.inl x)) (b : fA h z k = some (.inl y)) : x = y := by
  rw [a] at b
  cases b
  rfl
theorem bB_1 {own : Int} {num mo : Int32} {r : Int → Int → Int32 → Int32 × List Int} {x : Int32} : bB own num mo r 1 x = (x + num, [1]) := by
  unfold bB
  rw [if_pos rfl]
theorem bB_2 {own : Int} {num mo : Int32} {r : Int → Int → Int32 → Int32 × List Int} {x : Int32} : bB own num mo r 2 x = ((r own 1 x).1 + (r own 2 1).1, 2 :: ((r own 1 x).2 ++ (r own 2 1).2)) := by
  unfold bB
  rw [if_neg (by decide), if_pos rfl]
theorem bB_10 {own : Int} {num mo : Int32} {r : Int → Int → Int32 → Int32 × List Int} {x : Int32} : bB own num mo r 10 x = ((r own 0 x).1 * 2, 10 :: (r own 0 x).2) := by
  unfold bB
  rw [if_neg (by decide), if_neg (by decide), if_pos rfl]
theorem bB_11 {own : Int} {num mo : Int32} {r : Int → Int → Int32 → Int32 × List Int} {x : Int32} : bB own num mo r 11 x = (x ^^^ num, [11]) := by
  unfold bB
  rw [if_neg (by decide), if_neg (by decide), if_neg (by decide), if_pos rfl]
theorem bB_20 {own : Int} {num mo : Int32} {r : Int → Int → Int32 → Int32 × List Int} {x : Int32} : bB own num mo r 20 x = ((r 0 1 x).1 + mo, 20 :: (r 0 1 x).2) := by
  unfold bB
  rw [if_neg (by decide), if_neg (by decide), if_neg (by decide), if_neg (by decide), if_pos rfl]
theorem bB_30 {own : Int} {num mo : Int32} {r : Int → Int → Int32 → Int32 × List Int} {x : Int32} : bB own num mo r 30 x = ((r 0 2 x).1 * 3, 30 :: (r 0 2 x).2) := by
  unfold bB
  rw [if_neg (by decide), if_neg (by decide), if_neg (by decide), if_neg (by decide), if_neg (by decide), if_pos rfl]
theorem bB_40 {own : Int} {num mo : Int32} {r : Int → Int → Int32 → Int32 × List Int} {x : Int32} : bB own num mo r 40 x = ((r 0 0 x).1 - 1, 40 :: (r 0 0 x).2) := by
  unfold bB
  rw [if_neg (by decide), if_neg (by decide), if_neg (by decide), if_neg (by decide), if_neg (by decide), if_neg (by decide), if_pos rfl]
theorem bB_50 {own : Int} {num mo : Int32} {r : Int → Int → Int32 → Int32 × List Int} {x : Int32} : bB own num mo r 50 x = (-(r 0 2 x).1, 50 :: (r 0 2 x).2) := by
  unfold bB
  rw [if_neg (by decide), if_neg (by decide), if_neg (by decide), if_neg (by decide), if_neg (by decide), if_neg (by decide), if_neg (by decide), if_pos rfl]
theorem bB_60 {own : Int} {num mo : Int32} {r : Int → Int → Int32 → Int32 × List Int} {x : Int32} : bB own num mo r 60 x = ((r 0 3 x).1 ^^^ 7, 60 :: (r 0 3 x).2) := by
  unfold bB
  rw [if_neg (by decide), if_neg (by decide), if_neg (by decide), if_neg (by decide), if_neg (by decide), if_neg (by decide), if_neg (by decide), if_neg (by decide), if_pos rfl]
theorem bB_70 {own : Int} {num mo : Int32} {r : Int → Int → Int32 → Int32 × List Int} {x : Int32} : bB own num mo r 70 x = ((r 1 1 x).1 - (r own 2 2).1, 70 :: ((r 1 1 x).2 ++ (r own 2 2).2)) := by
  unfold bB
  rw [if_neg (by decide), if_neg (by decide), if_neg (by decide), if_neg (by decide), if_neg (by decide), if_neg (by decide), if_neg (by decide), if_neg (by decide), if_neg (by decide), if_pos rfl]
theorem bB_80 {own : Int} {num mo : Int32} {r : Int → Int → Int32 → Int32 × List Int} {x : Int32} : bB own num mo r 80 x = ((r 2 0 (x + 1)).1, 80 :: (r 2 0 (x + 1)).2) := by
  unfold bB
  rw [if_neg (by decide), if_neg (by decide), if_neg (by decide), if_neg (by decide), if_neg (by decide), if_neg (by decide), if_neg (by decide), if_neg (by decide), if_neg (by decide), if_neg (by decide), if_pos rfl]
theorem bB_81 {own : Int} {num mo : Int32} {r : Int → Int → Int32 → Int32 × List Int} {x : Int32} : bB own num mo r 81 x = ((r 2 3 x).1 * 2, 81 :: (r 2 3 x).2) := by
  unfold bB
  rw [if_neg (by decide), if_neg (by decide), if_neg (by decide), if_neg (by decide), if_neg (by decide), if_neg (by decide), if_neg (by decide), if_neg (by decide), if_neg (by decide), if_neg (by decide), if_neg (by decide), if_pos rfl]
theorem bB_0 {own : Int} {num mo : Int32} {r : Int → Int → Int32 → Int32 × List Int} {b : Int} {x : Int32} (h : b ≠ 1 ∧ b ≠ 2 ∧ b ≠ 10 ∧ b ≠ 11 ∧ b ≠ 20 ∧ b ≠ 30 ∧ b ≠ 40 ∧ b ≠ 50 ∧ b ≠ 60 ∧ b ≠ 70 ∧ b ≠ 80 ∧ b ≠ 81) : bB own num mo r b x = (0, [b]) := by
  unfold bB
  rw [if_neg h.1, if_neg h.2.1, if_neg h.2.2.1, if_neg h.2.2.2.1, if_neg h.2.2.2.2.1, if_neg h.2.2.2.2.2.1, if_neg h.2.2.2.2.2.2.1, if_neg h.2.2.2.2.2.2.2.1, if_neg h.2.2.2.2.2.2.2.2.1, if_neg h.2.2.2.2.2.2.2.2.2.1, if_neg h.2.2.2.2.2.2.2.2.2.2.1, if_neg h.2.2.2.2.2.2.2.2.2.2.2]
theorem TRa.b {a : Nat} {n0 n1 : Int} {h h1 h' : aH} {L : List Int} (f : TRa a n0 n1 h1 h' L) (e : arI h1 a = arI h a) : TRa a n0 n1 h h' L := ⟨f.1, fun k k0 k1 => by rw [f.2 k k0 k1]; unfold gI; rw [e]⟩
set_option maxRecDepth 20000 in
set_option maxHeartbeats 4000000 in
theorem sd_X11_kindAbove {d kc ks : Nat} {h0 : aH} {Q : Option aV → aH → Prop} (hO0 : OK h0) (a0 : Int32) (hQ : ∀ r, (∃ x : Int32, r = some (.inl x) ∧ ((a0.toInt = 0 → x.toInt = -1) ∧ ((1 ≤ a0.toInt ∧ a0.toInt ≤ 5) → x.toInt = 0) ∧ (a0.toInt = 6 → x.toInt = 1) ∧ (a0.toInt = 7 → x.toInt = 2) ∧ ((a0.toInt < 0 ∨ 7 < a0.toInt) → x.toInt = -1) ∧ -1 ≤ x.toInt ∧ x.toInt ≤ 2)) → Q r h0) : uCall Mt (d + 2) 180 [(.inl a0)] h0 kc ks Q := by
  have l_m1 : ((-1) : Int32).toInt = -1 := by decide
  have l_0 : ((0) : Int32).toInt = 0 := by decide
  have l_7 : ((7) : Int32).toInt = 7 := by decide
  refine uc_ink [some (.inl a0)] mt_180 (Nat.le_of_ble_eq_true rfl) rfl ?_
  refine ur_ldI rfl rfl ?_
  refine ur_push rfl ?_
  refine ur_push rfl ?_
  refine ur_callv rfl rfl (Nat.le_of_ble_eq_true rfl) (Nat.le_of_ble_eq_true rfl) rfl (sp_within _ _ _ _ _) ?_
  refine ur_eqB rfl (fun c3 => ?_) (fun c3 => ?_)
  · have t4 := wi_noL c3 l_0 l_7
    refine ur_push rfl ?_
    exact ur_ret rfl rfl (hQ _ ⟨_, rfl, by omega⟩ )
  · have t5 := wi_toL c3 l_0 l_7
    refine ur_abv rfl rfl (by omega) (fun x6 t7 e8 => ?_)
    have t9 := abv_e (by omega) e8
    refine ur_go rfl ?_
    exact ur_ret rfl rfl (hQ _ ⟨_, rfl, by omega⟩ )

set_option maxRecDepth 20000 in
set_option maxHeartbeats 4000000 in
theorem sd_X0_runBody {d kc ks : Nat} {h0 : aH} {Q : Option aV → aH → Prop} (n : Nat) {ow num mo : Int32} (rec : ∀ {kc ks : Nat} {h0 : aH} {Q : Option aV → aH → Prop}, OK h0 → ∀ {a1 : Nat}, 114 ≤ a1 → tg h0 a1 = (110, 13) → ∀ (a2 a3 : Int32), (0 ≤ a3.toInt ∧ a3.toInt ≤ 3) → ∀ (a4 a5 : Int32), (0 ≤ a5.toInt ∧ a5.toInt ≤ 25) → (a5.toInt + (n : Int) = 25) → (fA h0 a1 1 = some (.inl ow)) → (fA h0 a1 0 = some (.inl num)) → (fA h0 a1 8 = some (.inl mo)) → (fO h0 55 1 + bq n ≤ 90000000) → (∀ r h', (∃ x : Int32, r = some (.inl x) ∧ (x = (cB ow.toInt num mo n a2.toInt a3.toInt a4).1)) → OK h' → un [56, 6501] h0 h' → (TRa 56 (fO h0 55 1) (fO h' 55 1) h0 h' ((cB ow.toInt num mo n a2.toInt a3.toInt a4).2)) → (fO h' 55 1 ≤ fO h0 55 1 + bq n) → Q r h') → uCall Mt (d + 2) 4 [(.inr (.inr (some 55))), (.inr (.inr (some a1))), (.inl a2), (.inl a3), (.inl a4), (.inl a5)] h0 kc ks Q) (hb0 : 0 ≤ bq n) (hO0 : OK h0) {a1 : Nat} (g1 : 114 ≤ a1) (t1 : tg h0 a1 = (110, 13)) (a2 : Int32) (a3 : Int32) (a4 : Int32) (b4 : 0 ≤ a4.toInt ∧ a4.toInt ≤ 25) (e4 : a4.toInt + (n : Int) = 25) (pre0 : fA h0 a1 1 = some (.inl ow)) (pre1 : fA h0 a1 0 = some (.inl num)) (pre2 : fA h0 a1 8 = some (.inl mo)) (pre3 : fO h0 55 1 + (1 + 2 * bq n) ≤ 90000000) (hQ : ∀ r h', (∃ x : Int32, r = some (.inl x) ∧ (x = (bB ow.toInt num mo (cB ow.toInt num mo n) a2.toInt a3).1)) → OK h' → un [56, 6501] h0 h' → (TRa 56 (fO h0 55 1) (fO h' 55 1) h0 h' ((bB ow.toInt num mo (cB ow.toInt num mo n) a2.toInt a3).2)) → (fO h' 55 1 ≤ fO h0 55 1 + (1 + 2 * bq n)) → Q r h') : uCall Mt (d + 3) 5 [(.inr (.inr (some 55))), (.inr (.inr (some a1))), (.inl a2), (.inl a3), (.inl a4)] h0 kc ks Q := by
  have l_0 : ((0) : Int32).toInt = 0 := by decide
  have l_1 : ((1) : Int32).toInt = 1 := by decide
  have l_2 : ((2) : Int32).toInt = 2 := by decide
  have l_3 : ((3) : Int32).toInt = 3 := by decide
  have l_4 : ((4) : Int32).toInt = 4 := by decide
  have l_5 : ((5) : Int32).toInt = 5 := by decide
  have l_6 : ((6) : Int32).toInt = 6 := by decide
  have l_7 : ((7) : Int32).toInt = 7 := by decide
  have l_24 : ((24) : Int32).toInt = 24 := by decide
  refine uc_ink [some (.inr (.inr (some 55))), some (.inr (.inr (some a1))), some (.inl a2), some (.inl a3), some (.inl a4), none] mt_5 (Nat.le_of_ble_eq_true rfl) rfl ?_
  obtain ⟨f2, hc1, k3⟩ := ok_55 hO0
  have t4 := fO_of (k := 1) hc1 rfl
  refine ur_ldA rfl rfl ?_
  refine ur_get rfl hc1 rfl ?_
  refine ur_push rfl ?_
  refine ur_if2 rfl (fun c5 => ?_) (fun c5 => ?_)
  · have t6 := le_to c5
    refine ur_ldA rfl rfl ?_
    refine ur_dup rfl rfl ?_
    refine ur_get rfl hc1 rfl ?_
    refine ur_push rfl ?_
    refine ur_binV rfl (fun x7 e8 => ?_)
    have z9 := any_r f2
    have t10 := ti_add e8 (by omega) (by omega)
    refine ur_putV (W := [6501]) (fs' := [(.inr (.inr (some 56))), (.inl x7)]) rfl hO0 hc1 (Nat.le_of_ble_eq_true rfl) rfl rfl ⟨rfl, _, rfl, by omega⟩ rfl (Or.inr (by show 1000 + 100 * wid 55 (100, 2) + 1 ∈ _; rw [(wid_f (by decide))]; decide)) (fun h12 hO12 hv12 d11 hc13 => ?_)
    have hu12 : un [56, 6501] h0 h12 := hv12.mono (by decide)
    have t15 := fO_of (k := 1) hc13 rfl
    have t14 : TRa 56 (fO h0 55 1) (fO h12 55 1) h0 h12 [a2.toInt] := TRa.one (am_len hO0 (by decide) rfl) (by omega) (by omega) (fun q => absurd q (by omega)) (fun _ => (arI_c (d11 56 (by decide))))
    refine ur_ldA rfl rfl ?_
    obtain ⟨g32, f17, f18, f19, f20, f21, f22, f23, f24, f25, o29, f26, f27, f28, hc16, k30, k31⟩ := hO12.word (hu12.tm t1 (by decide))
    refine ur_get rfl hc16 rfl ?_
    have t33 : f18 = ow := fA_inj (fA_of (k := 1) hc16) ((fA_un hO0 hv12 g32 t1 (by decide) (by decide)).trans pre0)
    refine ur_svIk [some (.inr (.inr (some 55))), some (.inr (.inr (some a1))), some (.inl a2), some (.inl a3), some (.inl a4), some (.inl f18)] rfl rfl ?_
    refine ur_ldI rfl rfl ?_
    rcases (show a2.toInt = 1 ∨ a2.toInt = 2 ∨ a2.toInt = 10 ∨ a2.toInt = 11 ∨ a2.toInt = 20 ∨ a2.toInt = 30 ∨ a2.toInt = 40 ∨ a2.toInt = 50 ∨ a2.toInt = 60 ∨ a2.toInt = 70 ∨ a2.toInt = 80 ∨ a2.toInt = 81 ∨ (a2.toInt ≠ 1 ∧ a2.toInt ≠ 2 ∧ a2.toInt ≠ 10 ∧ a2.toInt ≠ 11 ∧ a2.toInt ≠ 20 ∧ a2.toInt ≠ 30 ∧ a2.toInt ≠ 40 ∧ a2.toInt ≠ 50 ∧ a2.toInt ≠ 60 ∧ a2.toInt ≠ 70 ∧ a2.toInt ≠ 80 ∧ a2.toInt ≠ 81) by omega) with t34 | t34 | t34 | t34 | t34 | t34 | t34 | t34 | t34 | t34 | t34 | t34 | t34
    · refine ur_swi (t := 144) rfl (by rw [t34]; rfl) ?_
      refine ur_ldI rfl rfl ?_
      refine ur_ldA rfl rfl ?_
      refine ur_get rfl hc16 rfl ?_
      have t35 : f17 = num := fA_inj (fA_of (k := 0) hc16) ((fA_un hO0 hv12 g32 t1 (by decide) (by decide)).trans pre1)
      refine ur_binV rfl (fun x36 e37 => ?_)
      have z38 := any_r a3
      have z39 := any_r f17
      exact ur_ret rfl rfl (hQ _ _ ⟨_, rfl, by rw [show a2.toInt = 1 by omega, bB_1]; show x36 = a3 + num; rw [← t35]; exact e37.symm⟩ hO12 hu12 (t14.c (by rw [show a2.toInt = 1 by omega, bB_1])) (by omega))
    · refine ur_swi (t := 151) rfl (by rw [t34]; rfl) ?_
      refine ur_ldA rfl rfl ?_
      refine ur_ldA rfl rfl ?_
      refine ur_ldI rfl rfl ?_
      refine ur_push rfl ?_
      refine ur_ldI rfl rfl ?_
      refine ur_ldI rfl rfl ?_
      refine ur_inl rfl (rcv_of hc13) (Nat.le_of_ble_eq_true rfl) (Nat.le_of_ble_eq_true rfl) (rec hO12 g32 (hu12.tm t1 (by decide)) _ _ (by show 0 ≤ (1 : Int32).toInt ∧ (1 : Int32).toInt ≤ 3; omega) _ _ (by show 0 ≤ a4.toInt ∧ a4.toInt ≤ 25; omega) (by show a4.toInt + (n : Int) = 25; omega) ((fA_un hO0 hv12 g32 t1 (by decide) (by decide)).trans pre0) ((fA_un hO0 hv12 g32 t1 (by decide) (by decide)).trans pre1) ((fA_un hO0 hv12 g32 t1 (by decide) (by decide)).trans pre2) (by omega) (fun w40 h44 hr41 hO44 hv44 hp42 hp43 => ?_))
      have hu44 := hv44
      obtain ⟨x45, rfl, f46⟩ := hr41
      show uRun _ (uCall Mt _) _ 162 (_, [(.inl x45)], _, _, _)
      refine ur_ldA rfl rfl ?_
      refine ur_ldA rfl rfl ?_
      refine ur_ldI rfl rfl ?_
      refine ur_push rfl ?_
      refine ur_push rfl ?_
      refine ur_ldI rfl rfl ?_
      obtain ⟨f48, hc47, k49⟩ := ok_55 hO44
      have t50 := fO_of (k := 1) hc47 rfl
      refine ur_inl rfl (rcv_of hc47) (Nat.le_of_ble_eq_true rfl) (Nat.le_of_ble_eq_true rfl) (rec hO44 g32 (hu44.tm (hu12.tm t1 (by decide)) (by decide)) _ _ (by show 0 ≤ (2 : Int32).toInt ∧ (2 : Int32).toInt ≤ 3; omega) _ _ (by show 0 ≤ a4.toInt ∧ a4.toInt ≤ 25; omega) (by show a4.toInt + (n : Int) = 25; omega) (((fA_un hO12 hv44 g32 (hu12.tm t1 (by decide)) (by decide) (by decide)).trans (fA_un hO0 hv12 g32 t1 (by decide) (by decide))).trans pre0) (((fA_un hO12 hv44 g32 (hu12.tm t1 (by decide)) (by decide) (by decide)).trans (fA_un hO0 hv12 g32 t1 (by decide) (by decide))).trans pre1) (((fA_un hO12 hv44 g32 (hu12.tm t1 (by decide)) (by decide) (by decide)).trans (fA_un hO0 hv12 g32 t1 (by decide) (by decide))).trans pre2) (by omega) (fun w51 h55 hr52 hO55 hv55 hp53 hp54 => ?_))
      have hu55 := hv55
      obtain ⟨x56, rfl, f57⟩ := hr52
      show uRun _ (uCall Mt _) _ 173 (_, [(.inl x56), (.inl x45)], _, _, _)
      refine ur_binV rfl (fun x58 e59 => ?_)
      have z60 := any_r x45
      have z61 := any_r x56
      obtain ⟨f63, hc62, k64⟩ := ok_55 hO55
      have t65 := fO_of (k := 1) hc62 rfl
      have q66 := hp42
      rw [t33] at q66
      have q67 := hp53
      rw [t33] at q67
      exact ur_ret rfl rfl (hQ _ _ ⟨_, rfl, by rw [show a2.toInt = 2 by omega, bB_2]; have v1 : x45 = (cB ow.toInt num mo n ow.toInt (1 : Int32).toInt (a3 : Int32)).1 := (f46.trans (by rw [t33])); have v2 : x56 = (cB ow.toInt num mo n ow.toInt (2 : Int32).toInt (1 : Int32)).1 := (f57.trans (by rw [t33])); rw [← e59, v1, v2]; rfl⟩ hO55 (hu12.tr (hu44.tr hu55)) ((t14.cons (q66.app q67)).c (by rw [show a2.toInt = 2 by omega, bB_2]; rfl)) (by omega))
    · refine ur_swi (t := 175) rfl (by rw [t34]; rfl) ?_
      refine ur_ldA rfl rfl ?_
      refine ur_ldA rfl rfl ?_
      refine ur_ldI rfl rfl ?_
      refine ur_push rfl ?_
      refine ur_ldI rfl rfl ?_
      refine ur_ldI rfl rfl ?_
      refine ur_inl rfl (rcv_of hc13) (Nat.le_of_ble_eq_true rfl) (Nat.le_of_ble_eq_true rfl) (rec hO12 g32 (hu12.tm t1 (by decide)) _ _ (by show 0 ≤ (0 : Int32).toInt ∧ (0 : Int32).toInt ≤ 3; omega) _ _ (by show 0 ≤ a4.toInt ∧ a4.toInt ≤ 25; omega) (by show a4.toInt + (n : Int) = 25; omega) ((fA_un hO0 hv12 g32 t1 (by decide) (by decide)).trans pre0) ((fA_un hO0 hv12 g32 t1 (by decide) (by decide)).trans pre1) ((fA_un hO0 hv12 g32 t1 (by decide) (by decide)).trans pre2) (by omega) (fun w68 h72 hr69 hO72 hv72 hp70 hp71 => ?_))
      have hu72 := hv72
      obtain ⟨x73, rfl, f74⟩ := hr69
      show uRun _ (uCall Mt _) _ 186 (_, [(.inl x73)], _, _, _)
      refine ur_push rfl ?_
      refine ur_binV rfl (fun x75 e76 => ?_)
      have z77 := any_r x73
      obtain ⟨f79, hc78, k80⟩ := ok_55 hO72
      have t81 := fO_of (k := 1) hc78 rfl
      have q82 := hp70
      rw [t33] at q82
      exact ur_ret rfl rfl (hQ _ _ ⟨_, rfl, by rw [show a2.toInt = 10 by omega, bB_10]; have v1 : x73 = (cB ow.toInt num mo n ow.toInt (0 : Int32).toInt (a3 : Int32)).1 := (f74.trans (by rw [t33])); rw [← e76, v1]; rfl⟩ hO72 (hu12.tr hu72) ((t14.cons q82).c (by rw [show a2.toInt = 10 by omega, bB_10]; rfl)) (by omega))
    · refine ur_swi (t := 189) rfl (by rw [t34]; rfl) ?_
      refine ur_ldI rfl rfl ?_
      refine ur_ldA rfl rfl ?_
      refine ur_get rfl hc16 rfl ?_
      have t83 : f17 = num := fA_inj (fA_of (k := 0) hc16) ((fA_un hO0 hv12 g32 t1 (by decide) (by decide)).trans pre1)
      refine ur_binV rfl (fun x84 e85 => ?_)
      exact ur_ret rfl rfl (hQ _ _ ⟨_, rfl, by rw [show a2.toInt = 11 by omega, bB_11]; show x84 = a3 ^^^ num; rw [← t83]; exact e85.symm⟩ hO12 hu12 (t14.c (by rw [show a2.toInt = 11 by omega, bB_11])) (by omega))
    · refine ur_swi (t := 196) rfl (by rw [t34]; rfl) ?_
      refine ur_ldA rfl rfl ?_
      refine ur_ldA rfl rfl ?_
      refine ur_push rfl ?_
      refine ur_inl rfl rfl (Nat.le_of_ble_eq_true rfl) (Nat.le_of_ble_eq_true rfl) (sd_X11_kindAbove hO12 _ (fun w86 hr87 => ?_))
      obtain ⟨x88, rfl, t89⟩ := hr87
      show uRun _ (uCall Mt _) _ 202 (_, [(.inl x88), (.inr (.inr (some a1))), (.inr (.inr (some 55)))], _, _, _)
      refine ur_push rfl ?_
      refine ur_ldI rfl rfl ?_
      refine ur_ldI rfl rfl ?_
      refine ur_inl rfl (rcv_of hc13) (Nat.le_of_ble_eq_true rfl) (Nat.le_of_ble_eq_true rfl) (rec hO12 g32 (hu12.tm t1 (by decide)) _ _ (by show 0 ≤ (1 : Int32).toInt ∧ (1 : Int32).toInt ≤ 3; omega) _ _ (by show 0 ≤ a4.toInt ∧ a4.toInt ≤ 25; omega) (by show a4.toInt + (n : Int) = 25; omega) ((fA_un hO0 hv12 g32 t1 (by decide) (by decide)).trans pre0) ((fA_un hO0 hv12 g32 t1 (by decide) (by decide)).trans pre1) ((fA_un hO0 hv12 g32 t1 (by decide) (by decide)).trans pre2) (by omega) (fun w90 h94 hr91 hO94 hv94 hp92 hp93 => ?_))
      have hu94 := hv94
      obtain ⟨x95, rfl, f96⟩ := hr91
      show uRun _ (uCall Mt _) _ 209 (_, [(.inl x95)], _, _, _)
      refine ur_ldA rfl rfl ?_
      refine ur_get rfl (hv94.ko (n := 13) hc16 rfl (wid_w g32) (by decide)) rfl ?_
      have t97 : f25 = mo := fA_inj (fA_of (k := 8) (hv94.ko (n := 13) hc16 rfl (wid_w g32) (by decide))) (((fA_un hO12 hv94 g32 (hu12.tm t1 (by decide)) (by decide) (by decide)).trans (fA_un hO0 hv12 g32 t1 (by decide) (by decide))).trans pre2)
      refine ur_binV rfl (fun x98 e99 => ?_)
      have z100 := any_r x95
      have z101 := any_r f25
      obtain ⟨f103, hc102, k104⟩ := ok_55 hO94
      have t105 := fO_of (k := 1) hc102 rfl
      have q106 := hp92
      rw [show x88.toInt = 0 by omega] at q106
      exact ur_ret rfl rfl (hQ _ _ ⟨_, rfl, by rw [show a2.toInt = 20 by omega, bB_20]; have v1 : x95 = (cB ow.toInt num mo n 0 (1 : Int32).toInt (a3 : Int32)).1 := (f96.trans (by rw [show x88.toInt = 0 by omega])); rw [← e99, v1, t97]; rfl⟩ hO94 (hu12.tr hu94) ((t14.cons q106).c (by rw [show a2.toInt = 20 by omega, bB_20]; rfl)) (by omega))
    · refine ur_swi (t := 215) rfl (by rw [t34]; rfl) ?_
      refine ur_ldA rfl rfl ?_
      refine ur_ldA rfl rfl ?_
      refine ur_push rfl ?_
      refine ur_inl rfl rfl (Nat.le_of_ble_eq_true rfl) (Nat.le_of_ble_eq_true rfl) (sd_X11_kindAbove hO12 _ (fun w107 hr108 => ?_))
      obtain ⟨x109, rfl, t110⟩ := hr108
      show uRun _ (uCall Mt _) _ 221 (_, [(.inl x109), (.inr (.inr (some a1))), (.inr (.inr (some 55)))], _, _, _)
      refine ur_push rfl ?_
      refine ur_ldI rfl rfl ?_
      refine ur_ldI rfl rfl ?_
      refine ur_inl rfl (rcv_of hc13) (Nat.le_of_ble_eq_true rfl) (Nat.le_of_ble_eq_true rfl) (rec hO12 g32 (hu12.tm t1 (by decide)) _ _ (by show 0 ≤ (2 : Int32).toInt ∧ (2 : Int32).toInt ≤ 3; omega) _ _ (by show 0 ≤ a4.toInt ∧ a4.toInt ≤ 25; omega) (by show a4.toInt + (n : Int) = 25; omega) ((fA_un hO0 hv12 g32 t1 (by decide) (by decide)).trans pre0) ((fA_un hO0 hv12 g32 t1 (by decide) (by decide)).trans pre1) ((fA_un hO0 hv12 g32 t1 (by decide) (by decide)).trans pre2) (by omega) (fun w111 h115 hr112 hO115 hv115 hp113 hp114 => ?_))
      have hu115 := hv115
      obtain ⟨x116, rfl, f117⟩ := hr112
      show uRun _ (uCall Mt _) _ 228 (_, [(.inl x116)], _, _, _)
      refine ur_push rfl ?_
      refine ur_binV rfl (fun x118 e119 => ?_)
      have z120 := any_r x116
      obtain ⟨f122, hc121, k123⟩ := ok_55 hO115
      have t124 := fO_of (k := 1) hc121 rfl
      have q125 := hp113
      rw [show x109.toInt = 0 by omega] at q125
      exact ur_ret rfl rfl (hQ _ _ ⟨_, rfl, by rw [show a2.toInt = 30 by omega, bB_30]; have v1 : x116 = (cB ow.toInt num mo n 0 (2 : Int32).toInt (a3 : Int32)).1 := (f117.trans (by rw [show x109.toInt = 0 by omega])); rw [← e119, v1]; rfl⟩ hO115 (hu12.tr hu115) ((t14.cons q125).c (by rw [show a2.toInt = 30 by omega, bB_30]; rfl)) (by omega))
    · refine ur_swi (t := 231) rfl (by rw [t34]; rfl) ?_
      refine ur_ldA rfl rfl ?_
      refine ur_ldA rfl rfl ?_
      refine ur_push rfl ?_
      refine ur_inl rfl rfl (Nat.le_of_ble_eq_true rfl) (Nat.le_of_ble_eq_true rfl) (sd_X11_kindAbove hO12 _ (fun w126 hr127 => ?_))
      obtain ⟨x128, rfl, t129⟩ := hr127
      show uRun _ (uCall Mt _) _ 237 (_, [(.inl x128), (.inr (.inr (some a1))), (.inr (.inr (some 55)))], _, _, _)
      refine ur_push rfl ?_
      refine ur_ldI rfl rfl ?_
      refine ur_ldI rfl rfl ?_
      refine ur_inl rfl (rcv_of hc13) (Nat.le_of_ble_eq_true rfl) (Nat.le_of_ble_eq_true rfl) (rec hO12 g32 (hu12.tm t1 (by decide)) _ _ (by show 0 ≤ (0 : Int32).toInt ∧ (0 : Int32).toInt ≤ 3; omega) _ _ (by show 0 ≤ a4.toInt ∧ a4.toInt ≤ 25; omega) (by show a4.toInt + (n : Int) = 25; omega) ((fA_un hO0 hv12 g32 t1 (by decide) (by decide)).trans pre0) ((fA_un hO0 hv12 g32 t1 (by decide) (by decide)).trans pre1) ((fA_un hO0 hv12 g32 t1 (by decide) (by decide)).trans pre2) (by omega) (fun w130 h134 hr131 hO134 hv134 hp132 hp133 => ?_))
      have hu134 := hv134
      obtain ⟨x135, rfl, f136⟩ := hr131
      show uRun _ (uCall Mt _) _ 244 (_, [(.inl x135)], _, _, _)
      refine ur_push rfl ?_
      refine ur_binV rfl (fun x137 e138 => ?_)
      have z139 := any_r x135
      obtain ⟨f141, hc140, k142⟩ := ok_55 hO134
      have t143 := fO_of (k := 1) hc140 rfl
      have q144 := hp132
      rw [show x128.toInt = 0 by omega] at q144
      exact ur_ret rfl rfl (hQ _ _ ⟨_, rfl, by rw [show a2.toInt = 40 by omega, bB_40]; have v1 : x135 = (cB ow.toInt num mo n 0 (0 : Int32).toInt (a3 : Int32)).1 := (f136.trans (by rw [show x128.toInt = 0 by omega])); rw [← e138, v1]; rfl⟩ hO134 (hu12.tr hu134) ((t14.cons q144).c (by rw [show a2.toInt = 40 by omega, bB_40]; rfl)) (by omega))
    · refine ur_swi (t := 247) rfl (by rw [t34]; rfl) ?_
      refine ur_ldA rfl rfl ?_
      refine ur_ldA rfl rfl ?_
      refine ur_push rfl ?_
      refine ur_inl rfl rfl (Nat.le_of_ble_eq_true rfl) (Nat.le_of_ble_eq_true rfl) (sd_X11_kindAbove hO12 _ (fun w145 hr146 => ?_))
      obtain ⟨x147, rfl, t148⟩ := hr146
      show uRun _ (uCall Mt _) _ 253 (_, [(.inl x147), (.inr (.inr (some a1))), (.inr (.inr (some 55)))], _, _, _)
      refine ur_push rfl ?_
      refine ur_ldI rfl rfl ?_
      refine ur_ldI rfl rfl ?_
      refine ur_inl rfl (rcv_of hc13) (Nat.le_of_ble_eq_true rfl) (Nat.le_of_ble_eq_true rfl) (rec hO12 g32 (hu12.tm t1 (by decide)) _ _ (by show 0 ≤ (2 : Int32).toInt ∧ (2 : Int32).toInt ≤ 3; omega) _ _ (by show 0 ≤ a4.toInt ∧ a4.toInt ≤ 25; omega) (by show a4.toInt + (n : Int) = 25; omega) ((fA_un hO0 hv12 g32 t1 (by decide) (by decide)).trans pre0) ((fA_un hO0 hv12 g32 t1 (by decide) (by decide)).trans pre1) ((fA_un hO0 hv12 g32 t1 (by decide) (by decide)).trans pre2) (by omega) (fun w149 h153 hr150 hO153 hv153 hp151 hp152 => ?_))
      have hu153 := hv153
      obtain ⟨x154, rfl, f155⟩ := hr150
      show uRun _ (uCall Mt _) _ 260 (_, [(.inl x154)], _, _, _)
      refine ur_unV rfl (fun x156 e157 => ?_)
      have z158 := any_r x154
      obtain ⟨f160, hc159, k161⟩ := ok_55 hO153
      have t162 := fO_of (k := 1) hc159 rfl
      have q163 := hp151
      rw [show x147.toInt = 0 by omega] at q163
      exact ur_ret rfl rfl (hQ _ _ ⟨_, rfl, by rw [show a2.toInt = 50 by omega, bB_50]; have v1 : x154 = (cB ow.toInt num mo n 0 (2 : Int32).toInt (a3 : Int32)).1 := (f155.trans (by rw [show x147.toInt = 0 by omega])); rw [← e157, v1]; rfl⟩ hO153 (hu12.tr hu153) ((t14.cons q163).c (by rw [show a2.toInt = 50 by omega, bB_50]; rfl)) (by omega))
    · refine ur_swi (t := 262) rfl (by rw [t34]; rfl) ?_
      refine ur_ldA rfl rfl ?_
      refine ur_ldA rfl rfl ?_
      refine ur_push rfl ?_
      refine ur_inl rfl rfl (Nat.le_of_ble_eq_true rfl) (Nat.le_of_ble_eq_true rfl) (sd_X11_kindAbove hO12 _ (fun w164 hr165 => ?_))
      obtain ⟨x166, rfl, t167⟩ := hr165
      show uRun _ (uCall Mt _) _ 268 (_, [(.inl x166), (.inr (.inr (some a1))), (.inr (.inr (some 55)))], _, _, _)
      refine ur_push rfl ?_
      refine ur_ldI rfl rfl ?_
      refine ur_ldI rfl rfl ?_
      refine ur_inl rfl (rcv_of hc13) (Nat.le_of_ble_eq_true rfl) (Nat.le_of_ble_eq_true rfl) (rec hO12 g32 (hu12.tm t1 (by decide)) _ _ (by show 0 ≤ (3 : Int32).toInt ∧ (3 : Int32).toInt ≤ 3; omega) _ _ (by show 0 ≤ a4.toInt ∧ a4.toInt ≤ 25; omega) (by show a4.toInt + (n : Int) = 25; omega) ((fA_un hO0 hv12 g32 t1 (by decide) (by decide)).trans pre0) ((fA_un hO0 hv12 g32 t1 (by decide) (by decide)).trans pre1) ((fA_un hO0 hv12 g32 t1 (by decide) (by decide)).trans pre2) (by omega) (fun w168 h172 hr169 hO172 hv172 hp170 hp171 => ?_))
      have hu172 := hv172
      obtain ⟨x173, rfl, f174⟩ := hr169
      show uRun _ (uCall Mt _) _ 275 (_, [(.inl x173)], _, _, _)
      refine ur_push rfl ?_
      refine ur_binV rfl (fun x175 e176 => ?_)
      obtain ⟨f178, hc177, k179⟩ := ok_55 hO172
      have t180 := fO_of (k := 1) hc177 rfl
      have q181 := hp170
      rw [show x166.toInt = 0 by omega] at q181
      exact ur_ret rfl rfl (hQ _ _ ⟨_, rfl, by rw [show a2.toInt = 60 by omega, bB_60]; have v1 : x173 = (cB ow.toInt num mo n 0 (3 : Int32).toInt (a3 : Int32)).1 := (f174.trans (by rw [show x166.toInt = 0 by omega])); rw [← e176, v1]; rfl⟩ hO172 (hu12.tr hu172) ((t14.cons q181).c (by rw [show a2.toInt = 60 by omega, bB_60]; rfl)) (by omega))
    · refine ur_swi (t := 279) rfl (by rw [t34]; rfl) ?_
      refine ur_ldA rfl rfl ?_
      refine ur_ldA rfl rfl ?_
      refine ur_push rfl ?_
      refine ur_inl rfl rfl (Nat.le_of_ble_eq_true rfl) (Nat.le_of_ble_eq_true rfl) (sd_X11_kindAbove hO12 _ (fun w182 hr183 => ?_))
      obtain ⟨x184, rfl, t185⟩ := hr183
      show uRun _ (uCall Mt _) _ 286 (_, [(.inl x184), (.inr (.inr (some a1))), (.inr (.inr (some 55)))], _, _, _)
      refine ur_push rfl ?_
      refine ur_ldI rfl rfl ?_
      refine ur_ldI rfl rfl ?_
      refine ur_inl rfl (rcv_of hc13) (Nat.le_of_ble_eq_true rfl) (Nat.le_of_ble_eq_true rfl) (rec hO12 g32 (hu12.tm t1 (by decide)) _ _ (by show 0 ≤ (1 : Int32).toInt ∧ (1 : Int32).toInt ≤ 3; omega) _ _ (by show 0 ≤ a4.toInt ∧ a4.toInt ≤ 25; omega) (by show a4.toInt + (n : Int) = 25; omega) ((fA_un hO0 hv12 g32 t1 (by decide) (by decide)).trans pre0) ((fA_un hO0 hv12 g32 t1 (by decide) (by decide)).trans pre1) ((fA_un hO0 hv12 g32 t1 (by decide) (by decide)).trans pre2) (by omega) (fun w186 h190 hr187 hO190 hv190 hp188 hp189 => ?_))
      have hu190 := hv190
      obtain ⟨x191, rfl, f192⟩ := hr187
      show uRun _ (uCall Mt _) _ 293 (_, [(.inl x191)], _, _, _)
      refine ur_ldA rfl rfl ?_
      refine ur_ldA rfl rfl ?_
      refine ur_ldI rfl rfl ?_
      refine ur_push rfl ?_
      refine ur_push rfl ?_
      refine ur_ldI rfl rfl ?_
      obtain ⟨f194, hc193, k195⟩ := ok_55 hO190
      have t196 := fO_of (k := 1) hc193 rfl
      refine ur_inl rfl (rcv_of hc193) (Nat.le_of_ble_eq_true rfl) (Nat.le_of_ble_eq_true rfl) (rec hO190 g32 (hu190.tm (hu12.tm t1 (by decide)) (by decide)) _ _ (by show 0 ≤ (2 : Int32).toInt ∧ (2 : Int32).toInt ≤ 3; omega) _ _ (by show 0 ≤ a4.toInt ∧ a4.toInt ≤ 25; omega) (by show a4.toInt + (n : Int) = 25; omega) (((fA_un hO12 hv190 g32 (hu12.tm t1 (by decide)) (by decide) (by decide)).trans (fA_un hO0 hv12 g32 t1 (by decide) (by decide))).trans pre0) (((fA_un hO12 hv190 g32 (hu12.tm t1 (by decide)) (by decide) (by decide)).trans (fA_un hO0 hv12 g32 t1 (by decide) (by decide))).trans pre1) (((fA_un hO12 hv190 g32 (hu12.tm t1 (by decide)) (by decide) (by decide)).trans (fA_un hO0 hv12 g32 t1 (by decide) (by decide))).trans pre2) (by omega) (fun w197 h201 hr198 hO201 hv201 hp199 hp200 => ?_))
      have hu201 := hv201
      obtain ⟨x202, rfl, f203⟩ := hr198
      show uRun _ (uCall Mt _) _ 304 (_, [(.inl x202), (.inl x191)], _, _, _)
      refine ur_binV rfl (fun x204 e205 => ?_)
      have z206 := any_r x191
      have z207 := any_r x202
      obtain ⟨f209, hc208, k210⟩ := ok_55 hO201
      have t211 := fO_of (k := 1) hc208 rfl
      have q212 := hp188
      rw [show x184.toInt = 1 by omega] at q212
      have q213 := hp199
      rw [t33] at q213
      exact ur_ret rfl rfl (hQ _ _ ⟨_, rfl, by rw [show a2.toInt = 70 by omega, bB_70]; have v1 : x191 = (cB ow.toInt num mo n 1 (1 : Int32).toInt (a3 : Int32)).1 := (f192.trans (by rw [show x184.toInt = 1 by omega])); have v2 : x202 = (cB ow.toInt num mo n ow.toInt (2 : Int32).toInt (2 : Int32)).1 := (f203.trans (by rw [t33])); rw [← e205, v1, v2]; rfl⟩ hO201 (hu12.tr (hu190.tr hu201)) ((t14.cons (q212.app q213)).c (by rw [show a2.toInt = 70 by omega, bB_70]; rfl)) (by omega))
    · refine ur_swi (t := 306) rfl (by rw [t34]; rfl) ?_
      refine ur_ldA rfl rfl ?_
      refine ur_ldA rfl rfl ?_
      refine ur_push rfl ?_
      refine ur_inl rfl rfl (Nat.le_of_ble_eq_true rfl) (Nat.le_of_ble_eq_true rfl) (sd_X11_kindAbove hO12 _ (fun w214 hr215 => ?_))
      obtain ⟨x216, rfl, t217⟩ := hr215
      show uRun _ (uCall Mt _) _ 313 (_, [(.inl x216), (.inr (.inr (some a1))), (.inr (.inr (some 55)))], _, _, _)
      refine ur_push rfl ?_
      refine ur_ldI rfl rfl ?_
      refine ur_push rfl ?_
      refine ur_binV rfl (fun x218 e219 => ?_)
      have z220 := any_r a3
      refine ur_ldI rfl rfl ?_
      refine ur_inl rfl (rcv_of hc13) (Nat.le_of_ble_eq_true rfl) (Nat.le_of_ble_eq_true rfl) (rec hO12 g32 (hu12.tm t1 (by decide)) _ _ (by show 0 ≤ (0 : Int32).toInt ∧ (0 : Int32).toInt ≤ 3; omega) _ _ (by show 0 ≤ a4.toInt ∧ a4.toInt ≤ 25; omega) (by show a4.toInt + (n : Int) = 25; omega) ((fA_un hO0 hv12 g32 t1 (by decide) (by decide)).trans pre0) ((fA_un hO0 hv12 g32 t1 (by decide) (by decide)).trans pre1) ((fA_un hO0 hv12 g32 t1 (by decide) (by decide)).trans pre2) (by omega) (fun w221 h225 hr222 hO225 hv225 hp223 hp224 => ?_))
      have hu225 := hv225
      obtain ⟨x226, rfl, f227⟩ := hr222
      show uRun _ (uCall Mt _) _ 322 (_, [(.inl x226)], _, _, _)
      obtain ⟨f229, hc228, k230⟩ := ok_55 hO225
      have t231 := fO_of (k := 1) hc228 rfl
      have q232 := hp223
      rw [show x216.toInt = 2 by omega] at q232
      exact ur_ret rfl rfl (hQ _ _ ⟨_, rfl, by rw [show a2.toInt = 80 by omega, bB_80]; have v1 : x226 = (cB ow.toInt num mo n 2 (0 : Int32).toInt (x218 : Int32)).1 := (f227.trans (by rw [show x216.toInt = 2 by omega])); rw [v1, ← e219]; rfl⟩ hO225 (hu12.tr hu225) ((t14.cons q232).c (by rw [show a2.toInt = 80 by omega, bB_80, ← e219]; rfl)) (by omega))
    · refine ur_swi (t := 323) rfl (by rw [t34]; rfl) ?_
      refine ur_ldA rfl rfl ?_
      refine ur_ldA rfl rfl ?_
      refine ur_push rfl ?_
      refine ur_inl rfl rfl (Nat.le_of_ble_eq_true rfl) (Nat.le_of_ble_eq_true rfl) (sd_X11_kindAbove hO12 _ (fun w233 hr234 => ?_))
      obtain ⟨x235, rfl, t236⟩ := hr234
      show uRun _ (uCall Mt _) _ 330 (_, [(.inl x235), (.inr (.inr (some a1))), (.inr (.inr (some 55)))], _, _, _)
      refine ur_push rfl ?_
      refine ur_ldI rfl rfl ?_
      refine ur_ldI rfl rfl ?_
      refine ur_inl rfl (rcv_of hc13) (Nat.le_of_ble_eq_true rfl) (Nat.le_of_ble_eq_true rfl) (rec hO12 g32 (hu12.tm t1 (by decide)) _ _ (by show 0 ≤ (3 : Int32).toInt ∧ (3 : Int32).toInt ≤ 3; omega) _ _ (by show 0 ≤ a4.toInt ∧ a4.toInt ≤ 25; omega) (by show a4.toInt + (n : Int) = 25; omega) ((fA_un hO0 hv12 g32 t1 (by decide) (by decide)).trans pre0) ((fA_un hO0 hv12 g32 t1 (by decide) (by decide)).trans pre1) ((fA_un hO0 hv12 g32 t1 (by decide) (by decide)).trans pre2) (by omega) (fun w237 h241 hr238 hO241 hv241 hp239 hp240 => ?_))
      have hu241 := hv241
      obtain ⟨x242, rfl, f243⟩ := hr238
      show uRun _ (uCall Mt _) _ 337 (_, [(.inl x242)], _, _, _)
      refine ur_push rfl ?_
      refine ur_binV rfl (fun x244 e245 => ?_)
      have z246 := any_r x242
      obtain ⟨f248, hc247, k249⟩ := ok_55 hO241
      have t250 := fO_of (k := 1) hc247 rfl
      have q251 := hp239
      rw [show x235.toInt = 2 by omega] at q251
      exact ur_ret rfl rfl (hQ _ _ ⟨_, rfl, by rw [show a2.toInt = 81 by omega, bB_81]; have v1 : x242 = (cB ow.toInt num mo n 2 (3 : Int32).toInt (a3 : Int32)).1 := (f243.trans (by rw [show x235.toInt = 2 by omega])); rw [← e245, v1]; rfl⟩ hO241 (hu12.tr hu241) ((t14.cons q251).c (by rw [show a2.toInt = 81 by omega, bB_81]; rfl)) (by omega))
    · refine ur_swi (t := 340) rfl (Eq.trans (congrArg (fun z => ((36 : Nat) : Int) + z) (show Op.lookupswitch.offset [(1, 108), (2, 115), (10, 139), (11, 153), (20, 160), (30, 179), (40, 195), (50, 211), (60, 226), (70, 243), (80, 270), (81, 287)] 304 a2.toInt = 304 by simp only [Op.lookupswitch.offset_cons, Op.lookupswitch.offset_nil]; rw [if_neg (show ¬ ((1) : Int) = a2.toInt by omega), if_neg (show ¬ ((2) : Int) = a2.toInt by omega), if_neg (show ¬ ((10) : Int) = a2.toInt by omega), if_neg (show ¬ ((11) : Int) = a2.toInt by omega), if_neg (show ¬ ((20) : Int) = a2.toInt by omega), if_neg (show ¬ ((30) : Int) = a2.toInt by omega), if_neg (show ¬ ((40) : Int) = a2.toInt by omega), if_neg (show ¬ ((50) : Int) = a2.toInt by omega), if_neg (show ¬ ((60) : Int) = a2.toInt by omega), if_neg (show ¬ ((70) : Int) = a2.toInt by omega), if_neg (show ¬ ((80) : Int) = a2.toInt by omega), if_neg (show ¬ ((81) : Int) = a2.toInt by omega)])) rfl) ?_
      refine ur_push rfl ?_
      exact ur_ret rfl rfl (hQ _ _ ⟨_, rfl, by rw [bB_0 (by omega)]⟩ hO12 hu12 (t14.c (by rw [bB_0 (by omega)])) (by omega))
  · have t252 := le_no c5
    refine ur_ldA rfl rfl ?_
    refine ur_get rfl hc1 rfl ?_
    refine ur_ldA rfl rfl ?_
    refine ur_get rfl hc1 rfl ?_
    refine ur_ldI rfl rfl ?_
    obtain ⟨xs254, hc253, hn255, he256⟩ := hO0.int (hO0.fix 56 (by decide) rfl)
    refine ur_astV (W := [56]) (m := 24) rfl hO0 hc253 (by decide) hn255 (by omega) (any_r _) (Or.inr (Or.inr (wid_fix (by decide) (by decide)))) (fun h259 hO259 hv259 d257 hc258 => ?_)
    have hu259 : un [56, 6501] h0 h259 := hv259.mono (by decide)
    have w260 : wI h0 h259 56 ((arI h0 56).set (f2 : Int32).toInt.toNat a2) := ⟨by rw [arI_of hc258, arI_of hc253], d257⟩
    refine ur_ldA rfl rfl ?_
    refine ur_dup rfl rfl ?_
    refine ur_get rfl ((d257 _ (by decide)).trans hc1) rfl ?_
    have t261 := fO_of (k := 1) ((d257 _ (by decide)).trans hc1) rfl
    refine ur_push rfl ?_
    refine ur_binV rfl (fun x262 e263 => ?_)
    have z264 := any_r f2
    have t265 := ti_add e263 (by omega) (by omega)
    refine ur_putV (W := [6501]) (fs' := [(.inr (.inr (some 56))), (.inl x262)]) rfl hO259 ((d257 _ (by decide)).trans hc1) (Nat.le_of_ble_eq_true rfl) rfl rfl ⟨rfl, _, rfl, by omega⟩ rfl (Or.inr (by show 1000 + 100 * wid 55 (100, 2) + 1 ∈ _; rw [(wid_f (by decide))]; decide)) (fun h267 hO267 hv267 d266 hc268 => ?_)
    have hu267 : un [56, 6501] h259 h267 := hv267.mono (by decide)
    have t270 := fO_of (k := 1) hc268 rfl
    have t269 : TRa 56 (fO h0 55 1) (fO h267 55 1) h0 h267 [a2.toInt] := TRa.one (am_len hO0 (by decide) rfl) (by omega) (by omega) (fun _ => by rw [show (fO h0 55 1).toNat = (f2 : Int32).toInt.toNat from congrArg Int.toNat (show fO h0 55 1 = (f2 : Int32).toInt by omega)]; exact (arI_c (d266 56 (by decide))).trans w260.1) (fun q => absurd q (by omega))
    refine ur_ldA rfl rfl ?_
    obtain ⟨g287, f272, f273, f274, f275, f276, f277, f278, f279, f280, o284, f281, f282, f283, hc271, k285, k286⟩ := hO267.word (hu267.tm (hu259.tm t1 (by decide)) (by decide))
    refine ur_get rfl hc271 rfl ?_
    have t288 : f273 = ow := fA_inj (fA_of (k := 1) hc271) (((fA_un hO259 hv267 g287 (hu259.tm t1 (by decide)) (by decide) (by decide)).trans (fA_un hO0 hv259 g287 t1 (by decide) (by decide))).trans pre0)
    refine ur_svIk [some (.inr (.inr (some 55))), some (.inr (.inr (some a1))), some (.inl a2), some (.inl a3), some (.inl a4), some (.inl f273)] rfl rfl ?_
    refine ur_ldI rfl rfl ?_
    rcases (show a2.toInt = 1 ∨ a2.toInt = 2 ∨ a2.toInt = 10 ∨ a2.toInt = 11 ∨ a2.toInt = 20 ∨ a2.toInt = 30 ∨ a2.toInt = 40 ∨ a2.toInt = 50 ∨ a2.toInt = 60 ∨ a2.toInt = 70 ∨ a2.toInt = 80 ∨ a2.toInt = 81 ∨ (a2.toInt ≠ 1 ∧ a2.toInt ≠ 2 ∧ a2.toInt ≠ 10 ∧ a2.toInt ≠ 11 ∧ a2.toInt ≠ 20 ∧ a2.toInt ≠ 30 ∧ a2.toInt ≠ 40 ∧ a2.toInt ≠ 50 ∧ a2.toInt ≠ 60 ∧ a2.toInt ≠ 70 ∧ a2.toInt ≠ 80 ∧ a2.toInt ≠ 81) by omega) with t289 | t289 | t289 | t289 | t289 | t289 | t289 | t289 | t289 | t289 | t289 | t289 | t289
    · refine ur_swi (t := 144) rfl (by rw [t289]; rfl) ?_
      refine ur_ldI rfl rfl ?_
      refine ur_ldA rfl rfl ?_
      refine ur_get rfl hc271 rfl ?_
      have t290 : f272 = num := fA_inj (fA_of (k := 0) hc271) (((fA_un hO259 hv267 g287 (hu259.tm t1 (by decide)) (by decide) (by decide)).trans (fA_un hO0 hv259 g287 t1 (by decide) (by decide))).trans pre1)
      refine ur_binV rfl (fun x291 e292 => ?_)
      have z293 := any_r a3
      have z294 := any_r f272
      exact ur_ret rfl rfl (hQ _ _ ⟨_, rfl, by rw [show a2.toInt = 1 by omega, bB_1]; show x291 = a3 + num; rw [← t290]; exact e292.symm⟩ hO267 (hu259.tr hu267) (t269.c (by rw [show a2.toInt = 1 by omega, bB_1])) (by omega))
    · refine ur_swi (t := 151) rfl (by rw [t289]; rfl) ?_
      refine ur_ldA rfl rfl ?_
      refine ur_ldA rfl rfl ?_
      refine ur_ldI rfl rfl ?_
      refine ur_push rfl ?_
      refine ur_ldI rfl rfl ?_
      refine ur_ldI rfl rfl ?_
      refine ur_inl rfl (rcv_of hc268) (Nat.le_of_ble_eq_true rfl) (Nat.le_of_ble_eq_true rfl) (rec hO267 g287 (hu267.tm (hu259.tm t1 (by decide)) (by decide)) _ _ (by show 0 ≤ (1 : Int32).toInt ∧ (1 : Int32).toInt ≤ 3; omega) _ _ (by show 0 ≤ a4.toInt ∧ a4.toInt ≤ 25; omega) (by show a4.toInt + (n : Int) = 25; omega) (((fA_un hO259 hv267 g287 (hu259.tm t1 (by decide)) (by decide) (by decide)).trans (fA_un hO0 hv259 g287 t1 (by decide) (by decide))).trans pre0) (((fA_un hO259 hv267 g287 (hu259.tm t1 (by decide)) (by decide) (by decide)).trans (fA_un hO0 hv259 g287 t1 (by decide) (by decide))).trans pre1) (((fA_un hO259 hv267 g287 (hu259.tm t1 (by decide)) (by decide) (by decide)).trans (fA_un hO0 hv259 g287 t1 (by decide) (by decide))).trans pre2) (by omega) (fun w295 h299 hr296 hO299 hv299 hp297 hp298 => ?_))
      have hu299 := hv299
      obtain ⟨x300, rfl, f301⟩ := hr296
      show uRun _ (uCall Mt _) _ 162 (_, [(.inl x300)], _, _, _)
      refine ur_ldA rfl rfl ?_
      refine ur_ldA rfl rfl ?_
      refine ur_ldI rfl rfl ?_
      refine ur_push rfl ?_
      refine ur_push rfl ?_
      refine ur_ldI rfl rfl ?_
      obtain ⟨f303, hc302, k304⟩ := ok_55 hO299
      have t305 := fO_of (k := 1) hc302 rfl
      refine ur_inl rfl (rcv_of hc302) (Nat.le_of_ble_eq_true rfl) (Nat.le_of_ble_eq_true rfl) (rec hO299 g287 (hu299.tm (hu267.tm (hu259.tm t1 (by decide)) (by decide)) (by decide)) _ _ (by show 0 ≤ (2 : Int32).toInt ∧ (2 : Int32).toInt ≤ 3; omega) _ _ (by show 0 ≤ a4.toInt ∧ a4.toInt ≤ 25; omega) (by show a4.toInt + (n : Int) = 25; omega) (((fA_un hO267 hv299 g287 (hu267.tm (hu259.tm t1 (by decide)) (by decide)) (by decide) (by decide)).trans ((fA_un hO259 hv267 g287 (hu259.tm t1 (by decide)) (by decide) (by decide)).trans (fA_un hO0 hv259 g287 t1 (by decide) (by decide)))).trans pre0) (((fA_un hO267 hv299 g287 (hu267.tm (hu259.tm t1 (by decide)) (by decide)) (by decide) (by decide)).trans ((fA_un hO259 hv267 g287 (hu259.tm t1 (by decide)) (by decide) (by decide)).trans (fA_un hO0 hv259 g287 t1 (by decide) (by decide)))).trans pre1) (((fA_un hO267 hv299 g287 (hu267.tm (hu259.tm t1 (by decide)) (by decide)) (by decide) (by decide)).trans ((fA_un hO259 hv267 g287 (hu259.tm t1 (by decide)) (by decide) (by decide)).trans (fA_un hO0 hv259 g287 t1 (by decide) (by decide)))).trans pre2) (by omega) (fun w306 h310 hr307 hO310 hv310 hp308 hp309 => ?_))
      have hu310 := hv310
      obtain ⟨x311, rfl, f312⟩ := hr307
      show uRun _ (uCall Mt _) _ 173 (_, [(.inl x311), (.inl x300)], _, _, _)
      refine ur_binV rfl (fun x313 e314 => ?_)
      have z315 := any_r x300
      have z316 := any_r x311
      obtain ⟨f318, hc317, k319⟩ := ok_55 hO310
      have t320 := fO_of (k := 1) hc317 rfl
      have q321 := hp297
      rw [t288] at q321
      have q322 := hp308
      rw [t288] at q322
      exact ur_ret rfl rfl (hQ _ _ ⟨_, rfl, by rw [show a2.toInt = 2 by omega, bB_2]; have v1 : x300 = (cB ow.toInt num mo n ow.toInt (1 : Int32).toInt (a3 : Int32)).1 := (f301.trans (by rw [t288])); have v2 : x311 = (cB ow.toInt num mo n ow.toInt (2 : Int32).toInt (1 : Int32)).1 := (f312.trans (by rw [t288])); rw [← e314, v1, v2]; rfl⟩ hO310 (hu259.tr (hu267.tr (hu299.tr hu310))) ((t269.cons (q321.app q322)).c (by rw [show a2.toInt = 2 by omega, bB_2]; rfl)) (by omega))
    · refine ur_swi (t := 175) rfl (by rw [t289]; rfl) ?_
      refine ur_ldA rfl rfl ?_
      refine ur_ldA rfl rfl ?_
      refine ur_ldI rfl rfl ?_
      refine ur_push rfl ?_
      refine ur_ldI rfl rfl ?_
      refine ur_ldI rfl rfl ?_
      refine ur_inl rfl (rcv_of hc268) (Nat.le_of_ble_eq_true rfl) (Nat.le_of_ble_eq_true rfl) (rec hO267 g287 (hu267.tm (hu259.tm t1 (by decide)) (by decide)) _ _ (by show 0 ≤ (0 : Int32).toInt ∧ (0 : Int32).toInt ≤ 3; omega) _ _ (by show 0 ≤ a4.toInt ∧ a4.toInt ≤ 25; omega) (by show a4.toInt + (n : Int) = 25; omega) (((fA_un hO259 hv267 g287 (hu259.tm t1 (by decide)) (by decide) (by decide)).trans (fA_un hO0 hv259 g287 t1 (by decide) (by decide))).trans pre0) (((fA_un hO259 hv267 g287 (hu259.tm t1 (by decide)) (by decide) (by decide)).trans (fA_un hO0 hv259 g287 t1 (by decide) (by decide))).trans pre1) (((fA_un hO259 hv267 g287 (hu259.tm t1 (by decide)) (by decide) (by decide)).trans (fA_un hO0 hv259 g287 t1 (by decide) (by decide))).trans pre2) (by omega) (fun w323 h327 hr324 hO327 hv327 hp325 hp326 => ?_))
      have hu327 := hv327
      obtain ⟨x328, rfl, f329⟩ := hr324
      show uRun _ (uCall Mt _) _ 186 (_, [(.inl x328)], _, _, _)
      refine ur_push rfl ?_
      refine ur_binV rfl (fun x330 e331 => ?_)
      have z332 := any_r x328
      obtain ⟨f334, hc333, k335⟩ := ok_55 hO327
      have t336 := fO_of (k := 1) hc333 rfl
      have q337 := hp325
      rw [t288] at q337
      exact ur_ret rfl rfl (hQ _ _ ⟨_, rfl, by rw [show a2.toInt = 10 by omega, bB_10]; have v1 : x328 = (cB ow.toInt num mo n ow.toInt (0 : Int32).toInt (a3 : Int32)).1 := (f329.trans (by rw [t288])); rw [← e331, v1]; rfl⟩ hO327 (hu259.tr (hu267.tr hu327)) ((t269.cons q337).c (by rw [show a2.toInt = 10 by omega, bB_10]; rfl)) (by omega))
    · refine ur_swi (t := 189) rfl (by rw [t289]; rfl) ?_
      refine ur_ldI rfl rfl ?_
      refine ur_ldA rfl rfl ?_
      refine ur_get rfl hc271 rfl ?_
      have t338 : f272 = num := fA_inj (fA_of (k := 0) hc271) (((fA_un hO259 hv267 g287 (hu259.tm t1 (by decide)) (by decide) (by decide)).trans (fA_un hO0 hv259 g287 t1 (by decide) (by decide))).trans pre1)
      refine ur_binV rfl (fun x339 e340 => ?_)
      exact ur_ret rfl rfl (hQ _ _ ⟨_, rfl, by rw [show a2.toInt = 11 by omega, bB_11]; show x339 = a3 ^^^ num; rw [← t338]; exact e340.symm⟩ hO267 (hu259.tr hu267) (t269.c (by rw [show a2.toInt = 11 by omega, bB_11])) (by omega))
    · refine ur_swi (t := 196) rfl (by rw [t289]; rfl) ?_
      refine ur_ldA rfl rfl ?_
      refine ur_ldA rfl rfl ?_
      refine ur_push rfl ?_
      refine ur_inl rfl rfl (Nat.le_of_ble_eq_true rfl) (Nat.le_of_ble_eq_true rfl) (sd_X11_kindAbove hO267 _ (fun w341 hr342 => ?_))
      obtain ⟨x343, rfl, t344⟩ := hr342
      show uRun _ (uCall Mt _) _ 202 (_, [(.inl x343), (.inr (.inr (some a1))), (.inr (.inr (some 55)))], _, _, _)
      refine ur_push rfl ?_
      refine ur_ldI rfl rfl ?_
      refine ur_ldI rfl rfl ?_
      refine ur_inl rfl (rcv_of hc268) (Nat.le_of_ble_eq_true rfl) (Nat.le_of_ble_eq_true rfl) (rec hO267 g287 (hu267.tm (hu259.tm t1 (by decide)) (by decide)) _ _ (by show 0 ≤ (1 : Int32).toInt ∧ (1 : Int32).toInt ≤ 3; omega) _ _ (by show 0 ≤ a4.toInt ∧ a4.toInt ≤ 25; omega) (by show a4.toInt + (n : Int) = 25; omega) (((fA_un hO259 hv267 g287 (hu259.tm t1 (by decide)) (by decide) (by decide)).trans (fA_un hO0 hv259 g287 t1 (by decide) (by decide))).trans pre0) (((fA_un hO259 hv267 g287 (hu259.tm t1 (by decide)) (by decide) (by decide)).trans (fA_un hO0 hv259 g287 t1 (by decide) (by decide))).trans pre1) (((fA_un hO259 hv267 g287 (hu259.tm t1 (by decide)) (by decide) (by decide)).trans (fA_un hO0 hv259 g287 t1 (by decide) (by decide))).trans pre2) (by omega) (fun w345 h349 hr346 hO349 hv349 hp347 hp348 => ?_))
      have hu349 := hv349
      obtain ⟨x350, rfl, f351⟩ := hr346
      show uRun _ (uCall Mt _) _ 209 (_, [(.inl x350)], _, _, _)
      refine ur_ldA rfl rfl ?_
      refine ur_get rfl (hv349.ko (n := 13) hc271 rfl (wid_w g287) (by decide)) rfl ?_
      have t352 : f280 = mo := fA_inj (fA_of (k := 8) (hv349.ko (n := 13) hc271 rfl (wid_w g287) (by decide))) (((fA_un hO267 hv349 g287 (hu267.tm (hu259.tm t1 (by decide)) (by decide)) (by decide) (by decide)).trans ((fA_un hO259 hv267 g287 (hu259.tm t1 (by decide)) (by decide) (by decide)).trans (fA_un hO0 hv259 g287 t1 (by decide) (by decide)))).trans pre2)
      refine ur_binV rfl (fun x353 e354 => ?_)
      have z355 := any_r x350
      have z356 := any_r f280
      obtain ⟨f358, hc357, k359⟩ := ok_55 hO349
      have t360 := fO_of (k := 1) hc357 rfl
      have q361 := hp347
      rw [show x343.toInt = 0 by omega] at q361
      exact ur_ret rfl rfl (hQ _ _ ⟨_, rfl, by rw [show a2.toInt = 20 by omega, bB_20]; have v1 : x350 = (cB ow.toInt num mo n 0 (1 : Int32).toInt (a3 : Int32)).1 := (f351.trans (by rw [show x343.toInt = 0 by omega])); rw [← e354, v1, t352]; rfl⟩ hO349 (hu259.tr (hu267.tr hu349)) ((t269.cons q361).c (by rw [show a2.toInt = 20 by omega, bB_20]; rfl)) (by omega))
    · refine ur_swi (t := 215) rfl (by rw [t289]; rfl) ?_
      refine ur_ldA rfl rfl ?_
      refine ur_ldA rfl rfl ?_
      refine ur_push rfl ?_
      refine ur_inl rfl rfl (Nat.le_of_ble_eq_true rfl) (Nat.le_of_ble_eq_true rfl) (sd_X11_kindAbove hO267 _ (fun w362 hr363 => ?_))
      obtain ⟨x364, rfl, t365⟩ := hr363
      show uRun _ (uCall Mt _) _ 221 (_, [(.inl x364), (.inr (.inr (some a1))), (.inr (.inr (some 55)))], _, _, _)
      refine ur_push rfl ?_
      refine ur_ldI rfl rfl ?_
      refine ur_ldI rfl rfl ?_
      refine ur_inl rfl (rcv_of hc268) (Nat.le_of_ble_eq_true rfl) (Nat.le_of_ble_eq_true rfl) (rec hO267 g287 (hu267.tm (hu259.tm t1 (by decide)) (by decide)) _ _ (by show 0 ≤ (2 : Int32).toInt ∧ (2 : Int32).toInt ≤ 3; omega) _ _ (by show 0 ≤ a4.toInt ∧ a4.toInt ≤ 25; omega) (by show a4.toInt + (n : Int) = 25; omega) (((fA_un hO259 hv267 g287 (hu259.tm t1 (by decide)) (by decide) (by decide)).trans (fA_un hO0 hv259 g287 t1 (by decide) (by decide))).trans pre0) (((fA_un hO259 hv267 g287 (hu259.tm t1 (by decide)) (by decide) (by decide)).trans (fA_un hO0 hv259 g287 t1 (by decide) (by decide))).trans pre1) (((fA_un hO259 hv267 g287 (hu259.tm t1 (by decide)) (by decide) (by decide)).trans (fA_un hO0 hv259 g287 t1 (by decide) (by decide))).trans pre2) (by omega) (fun w366 h370 hr367 hO370 hv370 hp368 hp369 => ?_))
      have hu370 := hv370
      obtain ⟨x371, rfl, f372⟩ := hr367
      show uRun _ (uCall Mt _) _ 228 (_, [(.inl x371)], _, _, _)
      refine ur_push rfl ?_
      refine ur_binV rfl (fun x373 e374 => ?_)
      have z375 := any_r x371
      obtain ⟨f377, hc376, k378⟩ := ok_55 hO370
      have t379 := fO_of (k := 1) hc376 rfl
      have q380 := hp368
      rw [show x364.toInt = 0 by omega] at q380
      exact ur_ret rfl rfl (hQ _ _ ⟨_, rfl, by rw [show a2.toInt = 30 by omega, bB_30]; have v1 : x371 = (cB ow.toInt num mo n 0 (2 : Int32).toInt (a3 : Int32)).1 := (f372.trans (by rw [show x364.toInt = 0 by omega])); rw [← e374, v1]; rfl⟩ hO370 (hu259.tr (hu267.tr hu370)) ((t269.cons q380).c (by rw [show a2.toInt = 30 by omega, bB_30]; rfl)) (by omega))
    · refine ur_swi (t := 231) rfl (by rw [t289]; rfl) ?_
      refine ur_ldA rfl rfl ?_
      refine ur_ldA rfl rfl ?_
      refine ur_push rfl ?_
      refine ur_inl rfl rfl (Nat.le_of_ble_eq_true rfl) (Nat.le_of_ble_eq_true rfl) (sd_X11_kindAbove hO267 _ (fun w381 hr382 => ?_))
      obtain ⟨x383, rfl, t384⟩ := hr382
      show uRun _ (uCall Mt _) _ 237 (_, [(.inl x383), (.inr (.inr (some a1))), (.inr (.inr (some 55)))], _, _, _)
      refine ur_push rfl ?_
      refine ur_ldI rfl rfl ?_
      refine ur_ldI rfl rfl ?_
      refine ur_inl rfl (rcv_of hc268) (Nat.le_of_ble_eq_true rfl) (Nat.le_of_ble_eq_true rfl) (rec hO267 g287 (hu267.tm (hu259.tm t1 (by decide)) (by decide)) _ _ (by show 0 ≤ (0 : Int32).toInt ∧ (0 : Int32).toInt ≤ 3; omega) _ _ (by show 0 ≤ a4.toInt ∧ a4.toInt ≤ 25; omega) (by show a4.toInt + (n : Int) = 25; omega) (((fA_un hO259 hv267 g287 (hu259.tm t1 (by decide)) (by decide) (by decide)).trans (fA_un hO0 hv259 g287 t1 (by decide) (by decide))).trans pre0) (((fA_un hO259 hv267 g287 (hu259.tm t1 (by decide)) (by decide) (by decide)).trans (fA_un hO0 hv259 g287 t1 (by decide) (by decide))).trans pre1) (((fA_un hO259 hv267 g287 (hu259.tm t1 (by decide)) (by decide) (by decide)).trans (fA_un hO0 hv259 g287 t1 (by decide) (by decide))).trans pre2) (by omega) (fun w385 h389 hr386 hO389 hv389 hp387 hp388 => ?_))
      have hu389 := hv389
      obtain ⟨x390, rfl, f391⟩ := hr386
      show uRun _ (uCall Mt _) _ 244 (_, [(.inl x390)], _, _, _)
      refine ur_push rfl ?_
      refine ur_binV rfl (fun x392 e393 => ?_)
      have z394 := any_r x390
      obtain ⟨f396, hc395, k397⟩ := ok_55 hO389
      have t398 := fO_of (k := 1) hc395 rfl
      have q399 := hp387
      rw [show x383.toInt = 0 by omega] at q399
      exact ur_ret rfl rfl (hQ _ _ ⟨_, rfl, by rw [show a2.toInt = 40 by omega, bB_40]; have v1 : x390 = (cB ow.toInt num mo n 0 (0 : Int32).toInt (a3 : Int32)).1 := (f391.trans (by rw [show x383.toInt = 0 by omega])); rw [← e393, v1]; rfl⟩ hO389 (hu259.tr (hu267.tr hu389)) ((t269.cons q399).c (by rw [show a2.toInt = 40 by omega, bB_40]; rfl)) (by omega))
    · refine ur_swi (t := 247) rfl (by rw [t289]; rfl) ?_
      refine ur_ldA rfl rfl ?_
      refine ur_ldA rfl rfl ?_
      refine ur_push rfl ?_
      refine ur_inl rfl rfl (Nat.le_of_ble_eq_true rfl) (Nat.le_of_ble_eq_true rfl) (sd_X11_kindAbove hO267 _ (fun w400 hr401 => ?_))
      obtain ⟨x402, rfl, t403⟩ := hr401
      show uRun _ (uCall Mt _) _ 253 (_, [(.inl x402), (.inr (.inr (some a1))), (.inr (.inr (some 55)))], _, _, _)
      refine ur_push rfl ?_
      refine ur_ldI rfl rfl ?_
      refine ur_ldI rfl rfl ?_
      refine ur_inl rfl (rcv_of hc268) (Nat.le_of_ble_eq_true rfl) (Nat.le_of_ble_eq_true rfl) (rec hO267 g287 (hu267.tm (hu259.tm t1 (by decide)) (by decide)) _ _ (by show 0 ≤ (2 : Int32).toInt ∧ (2 : Int32).toInt ≤ 3; omega) _ _ (by show 0 ≤ a4.toInt ∧ a4.toInt ≤ 25; omega) (by show a4.toInt + (n : Int) = 25; omega) (((fA_un hO259 hv267 g287 (hu259.tm t1 (by decide)) (by decide) (by decide)).trans (fA_un hO0 hv259 g287 t1 (by decide) (by decide))).trans pre0) (((fA_un hO259 hv267 g287 (hu259.tm t1 (by decide)) (by decide) (by decide)).trans (fA_un hO0 hv259 g287 t1 (by decide) (by decide))).trans pre1) (((fA_un hO259 hv267 g287 (hu259.tm t1 (by decide)) (by decide) (by decide)).trans (fA_un hO0 hv259 g287 t1 (by decide) (by decide))).trans pre2) (by omega) (fun w404 h408 hr405 hO408 hv408 hp406 hp407 => ?_))
      have hu408 := hv408
      obtain ⟨x409, rfl, f410⟩ := hr405
      show uRun _ (uCall Mt _) _ 260 (_, [(.inl x409)], _, _, _)
      refine ur_unV rfl (fun x411 e412 => ?_)
      have z413 := any_r x409
      obtain ⟨f415, hc414, k416⟩ := ok_55 hO408
      have t417 := fO_of (k := 1) hc414 rfl
      have q418 := hp406
      rw [show x402.toInt = 0 by omega] at q418
      exact ur_ret rfl rfl (hQ _ _ ⟨_, rfl, by rw [show a2.toInt = 50 by omega, bB_50]; have v1 : x409 = (cB ow.toInt num mo n 0 (2 : Int32).toInt (a3 : Int32)).1 := (f410.trans (by rw [show x402.toInt = 0 by omega])); rw [← e412, v1]; rfl⟩ hO408 (hu259.tr (hu267.tr hu408)) ((t269.cons q418).c (by rw [show a2.toInt = 50 by omega, bB_50]; rfl)) (by omega))
    · refine ur_swi (t := 262) rfl (by rw [t289]; rfl) ?_
      refine ur_ldA rfl rfl ?_
      refine ur_ldA rfl rfl ?_
      refine ur_push rfl ?_
      refine ur_inl rfl rfl (Nat.le_of_ble_eq_true rfl) (Nat.le_of_ble_eq_true rfl) (sd_X11_kindAbove hO267 _ (fun w419 hr420 => ?_))
      obtain ⟨x421, rfl, t422⟩ := hr420
      show uRun _ (uCall Mt _) _ 268 (_, [(.inl x421), (.inr (.inr (some a1))), (.inr (.inr (some 55)))], _, _, _)
      refine ur_push rfl ?_
      refine ur_ldI rfl rfl ?_
      refine ur_ldI rfl rfl ?_
      refine ur_inl rfl (rcv_of hc268) (Nat.le_of_ble_eq_true rfl) (Nat.le_of_ble_eq_true rfl) (rec hO267 g287 (hu267.tm (hu259.tm t1 (by decide)) (by decide)) _ _ (by show 0 ≤ (3 : Int32).toInt ∧ (3 : Int32).toInt ≤ 3; omega) _ _ (by show 0 ≤ a4.toInt ∧ a4.toInt ≤ 25; omega) (by show a4.toInt + (n : Int) = 25; omega) (((fA_un hO259 hv267 g287 (hu259.tm t1 (by decide)) (by decide) (by decide)).trans (fA_un hO0 hv259 g287 t1 (by decide) (by decide))).trans pre0) (((fA_un hO259 hv267 g287 (hu259.tm t1 (by decide)) (by decide) (by decide)).trans (fA_un hO0 hv259 g287 t1 (by decide) (by decide))).trans pre1) (((fA_un hO259 hv267 g287 (hu259.tm t1 (by decide)) (by decide) (by decide)).trans (fA_un hO0 hv259 g287 t1 (by decide) (by decide))).trans pre2) (by omega) (fun w423 h427 hr424 hO427 hv427 hp425 hp426 => ?_))
      have hu427 := hv427
      obtain ⟨x428, rfl, f429⟩ := hr424
      show uRun _ (uCall Mt _) _ 275 (_, [(.inl x428)], _, _, _)
      refine ur_push rfl ?_
      refine ur_binV rfl (fun x430 e431 => ?_)
      obtain ⟨f433, hc432, k434⟩ := ok_55 hO427
      have t435 := fO_of (k := 1) hc432 rfl
      have q436 := hp425
      rw [show x421.toInt = 0 by omega] at q436
      exact ur_ret rfl rfl (hQ _ _ ⟨_, rfl, by rw [show a2.toInt = 60 by omega, bB_60]; have v1 : x428 = (cB ow.toInt num mo n 0 (3 : Int32).toInt (a3 : Int32)).1 := (f429.trans (by rw [show x421.toInt = 0 by omega])); rw [← e431, v1]; rfl⟩ hO427 (hu259.tr (hu267.tr hu427)) ((t269.cons q436).c (by rw [show a2.toInt = 60 by omega, bB_60]; rfl)) (by omega))
    · refine ur_swi (t := 279) rfl (by rw [t289]; rfl) ?_
      refine ur_ldA rfl rfl ?_
      refine ur_ldA rfl rfl ?_
      refine ur_push rfl ?_
      refine ur_inl rfl rfl (Nat.le_of_ble_eq_true rfl) (Nat.le_of_ble_eq_true rfl) (sd_X11_kindAbove hO267 _ (fun w437 hr438 => ?_))
      obtain ⟨x439, rfl, t440⟩ := hr438
      show uRun _ (uCall Mt _) _ 286 (_, [(.inl x439), (.inr (.inr (some a1))), (.inr (.inr (some 55)))], _, _, _)
      refine ur_push rfl ?_
      refine ur_ldI rfl rfl ?_
      refine ur_ldI rfl rfl ?_
      refine ur_inl rfl (rcv_of hc268) (Nat.le_of_ble_eq_true rfl) (Nat.le_of_ble_eq_true rfl) (rec hO267 g287 (hu267.tm (hu259.tm t1 (by decide)) (by decide)) _ _ (by show 0 ≤ (1 : Int32).toInt ∧ (1 : Int32).toInt ≤ 3; omega) _ _ (by show 0 ≤ a4.toInt ∧ a4.toInt ≤ 25; omega) (by show a4.toInt + (n : Int) = 25; omega) (((fA_un hO259 hv267 g287 (hu259.tm t1 (by decide)) (by decide) (by decide)).trans (fA_un hO0 hv259 g287 t1 (by decide) (by decide))).trans pre0) (((fA_un hO259 hv267 g287 (hu259.tm t1 (by decide)) (by decide) (by decide)).trans (fA_un hO0 hv259 g287 t1 (by decide) (by decide))).trans pre1) (((fA_un hO259 hv267 g287 (hu259.tm t1 (by decide)) (by decide) (by decide)).trans (fA_un hO0 hv259 g287 t1 (by decide) (by decide))).trans pre2) (by omega) (fun w441 h445 hr442 hO445 hv445 hp443 hp444 => ?_))
      have hu445 := hv445
      obtain ⟨x446, rfl, f447⟩ := hr442
      show uRun _ (uCall Mt _) _ 293 (_, [(.inl x446)], _, _, _)
      refine ur_ldA rfl rfl ?_
      refine ur_ldA rfl rfl ?_
      refine ur_ldI rfl rfl ?_
      refine ur_push rfl ?_
      refine ur_push rfl ?_
      refine ur_ldI rfl rfl ?_
      obtain ⟨f449, hc448, k450⟩ := ok_55 hO445
      have t451 := fO_of (k := 1) hc448 rfl
      refine ur_inl rfl (rcv_of hc448) (Nat.le_of_ble_eq_true rfl) (Nat.le_of_ble_eq_true rfl) (rec hO445 g287 (hu445.tm (hu267.tm (hu259.tm t1 (by decide)) (by decide)) (by decide)) _ _ (by show 0 ≤ (2 : Int32).toInt ∧ (2 : Int32).toInt ≤ 3; omega) _ _ (by show 0 ≤ a4.toInt ∧ a4.toInt ≤ 25; omega) (by show a4.toInt + (n : Int) = 25; omega) (((fA_un hO267 hv445 g287 (hu267.tm (hu259.tm t1 (by decide)) (by decide)) (by decide) (by decide)).trans ((fA_un hO259 hv267 g287 (hu259.tm t1 (by decide)) (by decide) (by decide)).trans (fA_un hO0 hv259 g287 t1 (by decide) (by decide)))).trans pre0) (((fA_un hO267 hv445 g287 (hu267.tm (hu259.tm t1 (by decide)) (by decide)) (by decide) (by decide)).trans ((fA_un hO259 hv267 g287 (hu259.tm t1 (by decide)) (by decide) (by decide)).trans (fA_un hO0 hv259 g287 t1 (by decide) (by decide)))).trans pre1) (((fA_un hO267 hv445 g287 (hu267.tm (hu259.tm t1 (by decide)) (by decide)) (by decide) (by decide)).trans ((fA_un hO259 hv267 g287 (hu259.tm t1 (by decide)) (by decide) (by decide)).trans (fA_un hO0 hv259 g287 t1 (by decide) (by decide)))).trans pre2) (by omega) (fun w452 h456 hr453 hO456 hv456 hp454 hp455 => ?_))
      have hu456 := hv456
      obtain ⟨x457, rfl, f458⟩ := hr453
      show uRun _ (uCall Mt _) _ 304 (_, [(.inl x457), (.inl x446)], _, _, _)
      refine ur_binV rfl (fun x459 e460 => ?_)
      have z461 := any_r x446
      have z462 := any_r x457
      obtain ⟨f464, hc463, k465⟩ := ok_55 hO456
      have t466 := fO_of (k := 1) hc463 rfl
      have q467 := hp443
      rw [show x439.toInt = 1 by omega] at q467
      have q468 := hp454
      rw [t288] at q468
      exact ur_ret rfl rfl (hQ _ _ ⟨_, rfl, by rw [show a2.toInt = 70 by omega, bB_70]; have v1 : x446 = (cB ow.toInt num mo n 1 (1 : Int32).toInt (a3 : Int32)).1 := (f447.trans (by rw [show x439.toInt = 1 by omega])); have v2 : x457 = (cB ow.toInt num mo n ow.toInt (2 : Int32).toInt (2 : Int32)).1 := (f458.trans (by rw [t288])); rw [← e460, v1, v2]; rfl⟩ hO456 (hu259.tr (hu267.tr (hu445.tr hu456))) ((t269.cons (q467.app q468)).c (by rw [show a2.toInt = 70 by omega, bB_70]; rfl)) (by omega))
    · refine ur_swi (t := 306) rfl (by rw [t289]; rfl) ?_
      refine ur_ldA rfl rfl ?_
      refine ur_ldA rfl rfl ?_
      refine ur_push rfl ?_
      refine ur_inl rfl rfl (Nat.le_of_ble_eq_true rfl) (Nat.le_of_ble_eq_true rfl) (sd_X11_kindAbove hO267 _ (fun w469 hr470 => ?_))
      obtain ⟨x471, rfl, t472⟩ := hr470
      show uRun _ (uCall Mt _) _ 313 (_, [(.inl x471), (.inr (.inr (some a1))), (.inr (.inr (some 55)))], _, _, _)
      refine ur_push rfl ?_
      refine ur_ldI rfl rfl ?_
      refine ur_push rfl ?_
      refine ur_binV rfl (fun x473 e474 => ?_)
      have z475 := any_r a3
      refine ur_ldI rfl rfl ?_
      refine ur_inl rfl (rcv_of hc268) (Nat.le_of_ble_eq_true rfl) (Nat.le_of_ble_eq_true rfl) (rec hO267 g287 (hu267.tm (hu259.tm t1 (by decide)) (by decide)) _ _ (by show 0 ≤ (0 : Int32).toInt ∧ (0 : Int32).toInt ≤ 3; omega) _ _ (by show 0 ≤ a4.toInt ∧ a4.toInt ≤ 25; omega) (by show a4.toInt + (n : Int) = 25; omega) (((fA_un hO259 hv267 g287 (hu259.tm t1 (by decide)) (by decide) (by decide)).trans (fA_un hO0 hv259 g287 t1 (by decide) (by decide))).trans pre0) (((fA_un hO259 hv267 g287 (hu259.tm t1 (by decide)) (by decide) (by decide)).trans (fA_un hO0 hv259 g287 t1 (by decide) (by decide))).trans pre1) (((fA_un hO259 hv267 g287 (hu259.tm t1 (by decide)) (by decide) (by decide)).trans (fA_un hO0 hv259 g287 t1 (by decide) (by decide))).trans pre2) (by omega) (fun w476 h480 hr477 hO480 hv480 hp478 hp479 => ?_))
      have hu480 := hv480
      obtain ⟨x481, rfl, f482⟩ := hr477
      show uRun _ (uCall Mt _) _ 322 (_, [(.inl x481)], _, _, _)
      obtain ⟨f484, hc483, k485⟩ := ok_55 hO480
      have t486 := fO_of (k := 1) hc483 rfl
      have q487 := hp478
      rw [show x471.toInt = 2 by omega] at q487
      exact ur_ret rfl rfl (hQ _ _ ⟨_, rfl, by rw [show a2.toInt = 80 by omega, bB_80]; have v1 : x481 = (cB ow.toInt num mo n 2 (0 : Int32).toInt (x473 : Int32)).1 := (f482.trans (by rw [show x471.toInt = 2 by omega])); rw [v1, ← e474]; rfl⟩ hO480 (hu259.tr (hu267.tr hu480)) ((t269.cons q487).c (by rw [show a2.toInt = 80 by omega, bB_80, ← e474]; rfl)) (by omega))
    · refine ur_swi (t := 323) rfl (by rw [t289]; rfl) ?_
      refine ur_ldA rfl rfl ?_
      refine ur_ldA rfl rfl ?_
      refine ur_push rfl ?_
      refine ur_inl rfl rfl (Nat.le_of_ble_eq_true rfl) (Nat.le_of_ble_eq_true rfl) (sd_X11_kindAbove hO267 _ (fun w488 hr489 => ?_))
      obtain ⟨x490, rfl, t491⟩ := hr489
      show uRun _ (uCall Mt _) _ 330 (_, [(.inl x490), (.inr (.inr (some a1))), (.inr (.inr (some 55)))], _, _, _)
      refine ur_push rfl ?_
      refine ur_ldI rfl rfl ?_
      refine ur_ldI rfl rfl ?_
      refine ur_inl rfl (rcv_of hc268) (Nat.le_of_ble_eq_true rfl) (Nat.le_of_ble_eq_true rfl) (rec hO267 g287 (hu267.tm (hu259.tm t1 (by decide)) (by decide)) _ _ (by show 0 ≤ (3 : Int32).toInt ∧ (3 : Int32).toInt ≤ 3; omega) _ _ (by show 0 ≤ a4.toInt ∧ a4.toInt ≤ 25; omega) (by show a4.toInt + (n : Int) = 25; omega) (((fA_un hO259 hv267 g287 (hu259.tm t1 (by decide)) (by decide) (by decide)).trans (fA_un hO0 hv259 g287 t1 (by decide) (by decide))).trans pre0) (((fA_un hO259 hv267 g287 (hu259.tm t1 (by decide)) (by decide) (by decide)).trans (fA_un hO0 hv259 g287 t1 (by decide) (by decide))).trans pre1) (((fA_un hO259 hv267 g287 (hu259.tm t1 (by decide)) (by decide) (by decide)).trans (fA_un hO0 hv259 g287 t1 (by decide) (by decide))).trans pre2) (by omega) (fun w492 h496 hr493 hO496 hv496 hp494 hp495 => ?_))
      have hu496 := hv496
      obtain ⟨x497, rfl, f498⟩ := hr493
      show uRun _ (uCall Mt _) _ 337 (_, [(.inl x497)], _, _, _)
      refine ur_push rfl ?_
      refine ur_binV rfl (fun x499 e500 => ?_)
      have z501 := any_r x497
      obtain ⟨f503, hc502, k504⟩ := ok_55 hO496
      have t505 := fO_of (k := 1) hc502 rfl
      have q506 := hp494
      rw [show x490.toInt = 2 by omega] at q506
      exact ur_ret rfl rfl (hQ _ _ ⟨_, rfl, by rw [show a2.toInt = 81 by omega, bB_81]; have v1 : x497 = (cB ow.toInt num mo n 2 (3 : Int32).toInt (a3 : Int32)).1 := (f498.trans (by rw [show x490.toInt = 2 by omega])); rw [← e500, v1]; rfl⟩ hO496 (hu259.tr (hu267.tr hu496)) ((t269.cons q506).c (by rw [show a2.toInt = 81 by omega, bB_81]; rfl)) (by omega))
    · refine ur_swi (t := 340) rfl (Eq.trans (congrArg (fun z => ((36 : Nat) : Int) + z) (show Op.lookupswitch.offset [(1, 108), (2, 115), (10, 139), (11, 153), (20, 160), (30, 179), (40, 195), (50, 211), (60, 226), (70, 243), (80, 270), (81, 287)] 304 a2.toInt = 304 by simp only [Op.lookupswitch.offset_cons, Op.lookupswitch.offset_nil]; rw [if_neg (show ¬ ((1) : Int) = a2.toInt by omega), if_neg (show ¬ ((2) : Int) = a2.toInt by omega), if_neg (show ¬ ((10) : Int) = a2.toInt by omega), if_neg (show ¬ ((11) : Int) = a2.toInt by omega), if_neg (show ¬ ((20) : Int) = a2.toInt by omega), if_neg (show ¬ ((30) : Int) = a2.toInt by omega), if_neg (show ¬ ((40) : Int) = a2.toInt by omega), if_neg (show ¬ ((50) : Int) = a2.toInt by omega), if_neg (show ¬ ((60) : Int) = a2.toInt by omega), if_neg (show ¬ ((70) : Int) = a2.toInt by omega), if_neg (show ¬ ((80) : Int) = a2.toInt by omega), if_neg (show ¬ ((81) : Int) = a2.toInt by omega)])) rfl) ?_
      refine ur_push rfl ?_
      exact ur_ret rfl rfl (hQ _ _ ⟨_, rfl, by rw [bB_0 (by omega)]⟩ hO267 (hu259.tr hu267) (t269.c (by rw [bB_0 (by omega)])) (by omega))

set_option maxRecDepth 20000 in
set_option maxHeartbeats 4000000 in
theorem sd_X0_call {d kc ks : Nat} {h0 : aH} {Q : Option aV → aH → Prop} (n : Nat) {ow num mo : Int32} (rec : ∀ {kc ks : Nat} {h0 : aH} {Q : Option aV → aH → Prop}, OK h0 → ∀ {a1 : Nat}, 114 ≤ a1 → tg h0 a1 = (110, 13) → ∀ (a2 a3 : Int32), (0 ≤ a3.toInt ∧ a3.toInt ≤ 3) → ∀ (a4 a5 : Int32), (0 ≤ a5.toInt ∧ a5.toInt ≤ 25) → (a5.toInt + (n : Int) = 25) → (fA h0 a1 1 = some (.inl ow)) → (fA h0 a1 0 = some (.inl num)) → (fA h0 a1 8 = some (.inl mo)) → (fO h0 55 1 + bq n ≤ 90000000) → (∀ r h', (∃ x : Int32, r = some (.inl x) ∧ (x = (cB ow.toInt num mo n a2.toInt a3.toInt a4).1)) → OK h' → un [56, 6501] h0 h' → (TRa 56 (fO h0 55 1) (fO h' 55 1) h0 h' ((cB ow.toInt num mo n a2.toInt a3.toInt a4).2)) → (fO h' 55 1 ≤ fO h0 55 1 + bq n) → Q r h') → uCall Mt (d + 2) 4 [(.inr (.inr (some 55))), (.inr (.inr (some a1))), (.inl a2), (.inl a3), (.inl a4), (.inl a5)] h0 kc ks Q) (hb0 : 0 ≤ bq n) (hO0 : OK h0) {a1 : Nat} (g1 : 114 ≤ a1) (t1 : tg h0 a1 = (110, 13)) (a2 : Int32) (a3 : Int32) (b3 : 0 ≤ a3.toInt ∧ a3.toInt ≤ 3) (a4 : Int32) (a5 : Int32) (b5 : 0 ≤ a5.toInt ∧ a5.toInt ≤ 25) (e5 : a5.toInt + ((n + 1 : Nat) : Int) = 25) (pre0 : fA h0 a1 1 = some (.inl ow)) (pre1 : fA h0 a1 0 = some (.inl num)) (pre2 : fA h0 a1 8 = some (.inl mo)) (pre3 : fO h0 55 1 + (1 + 2 * bq n) ≤ 90000000) (hQ : ∀ r h', (∃ x : Int32, r = some (.inl x) ∧ (x = (cB ow.toInt num mo (n + 1) a2.toInt a3.toInt a4).1)) → OK h' → un [56, 6501] h0 h' → (TRa 56 (fO h0 55 1) (fO h' 55 1) h0 h' ((cB ow.toInt num mo (n + 1) a2.toInt a3.toInt a4).2)) → (fO h' 55 1 ≤ fO h0 55 1 + (1 + 2 * bq n)) → Q r h') : uCall Mt (d + 4) 4 [(.inr (.inr (some 55))), (.inr (.inr (some a1))), (.inl a2), (.inl a3), (.inl a4), (.inl a5)] h0 kc ks Q := by
  have l_0 : ((0) : Int32).toInt = 0 := by decide
  have l_1 : ((1) : Int32).toInt = 1 := by decide
  have l_7 : ((7) : Int32).toInt = 7 := by decide
  have l_8 : ((8) : Int32).toInt = 8 := by decide
  have l_24 : ((24) : Int32).toInt = 24 := by decide
  refine uc_ink [some (.inr (.inr (some 55))), some (.inr (.inr (some a1))), some (.inl a2), some (.inl a3), some (.inl a4), some (.inl a5), none, none, none] mt_4 (Nat.le_of_ble_eq_true rfl) rfl ?_
  obtain ⟨f2, hc1, k3⟩ := ok_55 hO0
  have t4 := fO_of (k := 1) hc1 rfl
  refine ur_ldI rfl rfl ?_
  refine ur_push rfl ?_
  refine ur_if2 rfl (fun c5 => ?_) (fun c5 => ?_)
  · have t6 := le_to c5
    refine ur_ldI rfl rfl ?_
    refine ur_svIk [some (.inr (.inr (some 55))), some (.inr (.inr (some a1))), some (.inl a2), some (.inl a3), some (.inl a4), some (.inl a5), some (.inl a2), none, none] rfl rfl ?_
    refine ur_push rfl ?_
    refine ur_svIk [some (.inr (.inr (some 55))), some (.inr (.inr (some a1))), some (.inl a2), some (.inl a3), some (.inl a4), some (.inl a5), some (.inl a2), some (.inl 0), none] rfl rfl ?_
    have L10 : ∀ (m11 : Nat) (x7 : Int32) (x8 : Int32) (u9 : Option aV) , ((0 ≤ x8.toInt ∧ x8.toInt ≤ 8) ∧ (x7.toInt ≥ 6 → x8.toInt ≤ 0) ∧ (x7.toInt ≥ 1 → x8.toInt ≤ 1) ∧ (x7.toInt ≥ 0 → x8.toInt ≤ 2)) → (bodyOf x7.toInt a3.toInt = bodyOf a2.toInt a3.toInt) → ((9 - x8.toInt).toNat) < m11 → uRun oX0_call (uCall Mt (d + 3)) Q 15 ([some (.inr (.inr (some 55))), some (.inr (.inr (some a1))), some (.inl a2), some (.inl a3), some (.inl a4), some (.inl a5), some (.inl x7), some (.inl x8), u9], [], h0, kc, ks) := by
      intro m11
      induction m11 with
      | zero => intro x7 x8 u9 iv14 px13 mm15; omega
      | succ m11 ih12 =>
        intro x7 x8 u9 iv14 px13 mm15
        refine ur_ldI rfl rfl ?_
        refine ur_push rfl ?_
        refine ur_if2 rfl (fun c16 => ?_) (fun c16 => ?_)
        · have t17 := le_to c16
          refine ur_push rfl ?_
          exact ur_ret rfl rfl (hQ _ _ ⟨_, rfl, by rw [cB_f (px13.symm.trans (bo_o (by omega) (by omega)))]⟩ hO0 un.rf (TRa.nil.c (by rw [cB_f (px13.symm.trans (bo_o (by omega) (by omega)))])) (by omega))
        · have t18 := le_no c16
          refine ur_ldI rfl rfl ?_
          refine ur_push rfl ?_
          refine ur_push rfl ?_
          refine ur_callv rfl rfl (Nat.le_of_ble_eq_true rfl) (Nat.le_of_ble_eq_true rfl) rfl (sp_within _ _ _ _ _) ?_
          refine ur_eqB rfl (fun c21 => ?_) (fun c21 => ?_)
          · have t22 := wi_noL c21 l_0 l_7
            refine ur_push rfl ?_
            exact ur_ret rfl rfl (hQ _ _ ⟨_, rfl, by rw [cB_f (px13.symm.trans (bo_o (by omega) (by omega)))]⟩ hO0 un.rf (TRa.nil.c (by rw [cB_f (px13.symm.trans (bo_o (by omega) (by omega)))])) (by omega))
          · have t23 := wi_toL c21 l_0 l_7
            refine ur_bod rfl rfl rfl (by omega) (by omega) (fun x24 e26 => ?_)
            refine ur_svIk [some (.inr (.inr (some 55))), some (.inr (.inr (some a1))), some (.inl a2), some (.inl a3), some (.inl a4), some (.inl a5), some (.inl x7), some (.inl x8), some (.inl x24)] rfl rfl ?_
            refine ur_ldI rfl rfl ?_
            refine ur_if1 rfl (fun c27 => ?_) (fun c27 => ?_)
            · have t28 := eq_to c27
              refine ur_ldI rfl rfl ?_
              refine ur_inl rfl rfl (Nat.le_of_ble_eq_true rfl) (Nat.le_of_ble_eq_true rfl) (sd_X11_kindAbove hO0 _ (fun w29 hr30 => ?_))
              obtain ⟨x31, rfl, t32⟩ := hr30
              show uRun _ (uCall Mt _) _ 69 (_, [(.inl x31)], _, _, _)
              refine ur_svIk [some (.inr (.inr (some 55))), some (.inr (.inr (some a1))), some (.inl a2), some (.inl a3), some (.inl a4), some (.inl a5), some (.inl x31), some (.inl x8), some (.inl x24)] rfl rfl ?_
              refine ur_incV (fun z => [some (.inr (.inr (some 55))), some (.inr (.inr (some a1))), some (.inl a2), some (.inl a3), some (.inl a4), some (.inl a5), some (.inl x31), some (.inl z), some (.inl x24)]) rfl rfl (fun _ => rfl) (fun x33 e34 => ?_)
              have z35 := any_r x8
              have t36 := ti_add e34 (by omega) (by omega)
              refine ur_go rfl ?_
              have z37 := any_r x33
              exact ih12 x31 x33 _ (by omega) ((bo_f (by omega) (by omega) e26 (u := x31.toInt) (by omega) (by omega)).symm.trans px13) (by omega)
            · have t38 := eq_no c27
              refine ur_ldA rfl rfl ?_
              refine ur_ldA rfl rfl ?_
              refine ur_ldI rfl rfl ?_
              refine ur_ldI rfl rfl ?_
              refine ur_ldI rfl rfl ?_
              refine ur_push rfl ?_
              refine ur_binV rfl (fun x39 e40 => ?_)
              have z41 := any_r a5
              have t42 := ti_add e40 (by omega) (by omega)
              refine ur_inl rfl (rcv_of hc1) (Nat.le_of_ble_eq_true rfl) (Nat.le_of_ble_eq_true rfl) (sd_X0_runBody n rec hb0 hO0 g1 t1 _ _ _ (by show 0 ≤ x39.toInt ∧ x39.toInt ≤ 25; omega) (by show x39.toInt + (n : Int) = 25; omega) (pre0) (pre1) (pre2) (by omega) (fun w43 h47 hr44 hO47 hv47 hp45 hp46 => ?_))
              have hu47 := hv47
              obtain ⟨x48, rfl, f49⟩ := hr44
              show uRun _ (uCall Mt _) _ 63 (_, [(.inl x48)], _, _, _)
              obtain ⟨f51, hc50, k52⟩ := ok_55 hO47
              have t53 := fO_of (k := 1) hc50 rfl
              exact ur_ret rfl rfl (hQ _ _ ⟨_, rfl, f49.trans (by rw [cB_t (px13.symm.trans (bo_t (by omega) (by omega) e26 (by omega))) (by omega)])⟩ hO47 hu47 (hp45.c (by rw [cB_t (px13.symm.trans (bo_t (by omega) (by omega) e26 (by omega))) (by omega)])) (by omega))
    exact L10 _ a2 0 (none) (by omega) rfl (Nat.lt_succ_self _)
  · have t54 := le_no c5
    exfalso
    omega

set_option maxRecDepth 20000 in
set_option maxHeartbeats 4000000 in
theorem sd_X0_call_0 {d kc ks : Nat} {h0 : aH} {Q : Option aV → aH → Prop} (hO0 : OK h0) {a1 : Nat} (g1 : 114 ≤ a1) (t1 : tg h0 a1 = (110, 13)) (a2 : Int32) (a3 : Int32) (b3 : 0 ≤ a3.toInt ∧ a3.toInt ≤ 3) (a4 : Int32) (a5 : Int32) (b5 : 25 ≤ a5.toInt ∧ a5.toInt ≤ 25) (hQ : ∀ r, (∃ x : Int32, r = some (.inl x) ∧ (x.toInt = 0)) → Q r h0) : uCall Mt (d + 2) 4 [(.inr (.inr (some 55))), (.inr (.inr (some a1))), (.inl a2), (.inl a3), (.inl a4), (.inl a5)] h0 kc ks Q := by
  have l_0 : ((0) : Int32).toInt = 0 := by decide
  have l_24 : ((24) : Int32).toInt = 24 := by decide
  refine uc_ink [some (.inr (.inr (some 55))), some (.inr (.inr (some a1))), some (.inl a2), some (.inl a3), some (.inl a4), some (.inl a5), none, none, none] mt_4 (Nat.le_of_ble_eq_true rfl) rfl ?_
  refine ur_ldI rfl rfl ?_
  refine ur_push rfl ?_
  refine ur_if2 rfl (fun c1 => ?_) (fun c1 => ?_)
  · have t2 := le_to c1
    exfalso
    omega
  · have t3 := le_no c1
    refine ur_push rfl ?_
    exact ur_ret rfl rfl (hQ _ ⟨_, rfl, by omega⟩ )

theorem sd_X0_callI (n : Nat) {ow num mo : Int32} : ∀ {d kc ks : Nat} {h0 : aH} {Q : Option aV → aH → Prop}, OK h0 → ∀ {a1 : Nat}, 114 ≤ a1 → tg h0 a1 = (110, 13) → ∀ (a2 a3 : Int32), (0 ≤ a3.toInt ∧ a3.toInt ≤ 3) → ∀ (a4 a5 : Int32), (0 ≤ a5.toInt ∧ a5.toInt ≤ 25) → (a5.toInt + (n : Int) = 25) → (fA h0 a1 1 = some (.inl ow)) → (fA h0 a1 0 = some (.inl num)) → (fA h0 a1 8 = some (.inl mo)) → (fO h0 55 1 + bq n ≤ 90000000) → (∀ r h', (∃ x : Int32, r = some (.inl x) ∧ (x = (cB ow.toInt num mo n a2.toInt a3.toInt a4).1)) → OK h' → un [56, 6501] h0 h' → (TRa 56 (fO h0 55 1) (fO h' 55 1) h0 h' ((cB ow.toInt num mo n a2.toInt a3.toInt a4).2)) → (fO h' 55 1 ≤ fO h0 55 1 + bq n) → Q r h') → uCall Mt (d + 2 * n + 2) 4 [(.inr (.inr (some 55))), (.inr (.inr (some a1))), (.inl a2), (.inl a3), (.inl a4), (.inl a5)] h0 kc ks Q := by
  induction n with
  | zero => exact fun {d kc ks h0 Q} hO a1 g t a2 a3 b a4 a5 c e p1 p2 p3 p k => uCall_le (show d + 2 ≤ d + 2 * 0 + 2 by omega) (sd_X0_call_0 hO g t a2 a3 b a4 a5 (by omega) (fun r hr => k r h0 (by obtain ⟨x, e1, e2⟩ := hr; exact ⟨x, e1, Int32.toInt_inj.mp (e2.trans (show (0 : Int) = (0 : Int32).toInt by decide))⟩) hO un.rf TRa.nil (by show fO h0 55 1 ≤ fO h0 55 1 + 0; omega)))
  | succ n ih => exact fun {d kc ks h0 Q} hO a1 g t a2 a3 b a4 a5 c e p1 p2 p3 p k => uCall_le (show d + 2 * n + 4 ≤ d + 2 * (n + 1) + 2 by omega) (sd_X0_call (d := d + 2 * n) n (fun {kc ks h0 Q} hO {a1} g t a2 a3 b a4 a5 c e p1 p2 p3 p k => ih hO g t a2 a3 b a4 a5 c e p1 p2 p3 p k) (bq_0 n) hO g t a2 a3 b a4 a5 c e p1 p2 p3 (by rw [bq_s] at p; exact p) (fun r h' hr hO' hu hp hq => k r h' hr hO' hu hp (by rw [bq_s]; exact hq)))

theorem sd_X0_callF {d kc ks : Nat} {h0 : aH} {Q : Option aV → aH → Prop} {ow num mo : Int32} : OK h0 → ∀ {a1 : Nat}, 114 ≤ a1 → tg h0 a1 = (110, 13) → ∀ (a2 a3 : Int32), (0 ≤ a3.toInt ∧ a3.toInt ≤ 3) → ∀ (a4 a5 : Int32), (0 ≤ a5.toInt ∧ a5.toInt ≤ 25) → (a5.toInt + ((25 : Nat) : Int) = 25) → (fA h0 a1 1 = some (.inl ow)) → (fA h0 a1 0 = some (.inl num)) → (fA h0 a1 8 = some (.inl mo)) → (fO h0 55 1 ≤ 0) → (∀ r h', (∃ x : Int32, r = some (.inl x) ∧ (x = (cB ow.toInt num mo 25 a2.toInt a3.toInt a4).1)) → OK h' → un [56, 6501] h0 h' → (TRa 56 (fO h0 55 1) (fO h' 55 1) h0 h' ((cB ow.toInt num mo 25 a2.toInt a3.toInt a4).2)) → (True) → Q r h') → uCall Mt (d + 52) 4 [(.inr (.inr (some 55))), (.inr (.inr (some a1))), (.inl a2), (.inl a3), (.inl a4), (.inl a5)] h0 kc ks Q := fun hO {a1} g t a2 a3 b a4 a5 c e p1 p2 p3 p k => uCall_le (show d + 2 * 25 + 2 ≤ d + 52 by omega) (sd_X0_callI 25 hO g t a2 a3 b a4 a5 c e p1 p2 p3 (by have := bq_25; omega) (fun r h' hr hO' hu hp _ => k r h' hr hO' hu hp trivial))

set_option maxRecDepth 20000 in
set_option maxHeartbeats 4000000 in
theorem sd_X0_perform {d kc ks : Nat} {h0 : aH} {Q : Option aV → aH → Prop} {ow num mo : Int32} (hO0 : OK h0) {a1 : Nat} (g1 : 114 ≤ a1) (t1 : tg h0 a1 = (110, 13)) (a2 : Int32) (b2 : 0 ≤ a2.toInt ∧ a2.toInt ≤ 3) (a3 : Int32) (pre0 : fA h0 a1 1 = some (.inl ow)) (pre1 : fA h0 a1 0 = some (.inl num)) (pre2 : fA h0 a1 8 = some (.inl mo)) (pre3 : fO h0 55 1 ≤ 0) (hQ : ∀ r h', (∃ x : Int32, r = some (.inl x) ∧ (x = (cB ow.toInt num mo 25 ow.toInt a2.toInt a3).1)) → OK h' → un [56, 6501] h0 h' → (TRa 56 (fO h0 55 1) (fO h' 55 1) h0 h' ((cB ow.toInt num mo 25 ow.toInt a2.toInt a3).2)) → Q r h') : uCall Mt (d + 53) 3 [(.inr (.inr (some 55))), (.inr (.inr (some a1))), (.inl a2), (.inl a3)] h0 kc ks Q := by
  have l_0 : ((0) : Int32).toInt = 0 := by decide
  refine uc_ink [some (.inr (.inr (some 55))), some (.inr (.inr (some a1))), some (.inl a2), some (.inl a3)] mt_3 (Nat.le_of_ble_eq_true rfl) rfl ?_
  obtain ⟨f2, hc1, k3⟩ := ok_55 hO0
  have t4 := fO_of (k := 1) hc1 rfl
  refine ur_ldA rfl rfl ?_
  refine ur_ldA rfl rfl ?_
  refine ur_ldA rfl rfl ?_
  obtain ⟨g21, f6, f7, f8, f9, f10, f11, f12, f13, f14, o18, f15, f16, f17, hc5, k19, k20⟩ := hO0.word t1
  refine ur_get rfl hc5 rfl ?_
  have t22 : f7 = ow := fA_inj (fA_of (k := 1) hc5) (pre0)
  refine ur_ldI rfl rfl ?_
  refine ur_ldI rfl rfl ?_
  refine ur_push rfl ?_
  refine ur_inl rfl (rcv_of hc1) (Nat.le_of_ble_eq_true rfl) (Nat.le_of_ble_eq_true rfl) (sd_X0_callF hO0 g21 t1 _ _ (by show 0 ≤ a2.toInt ∧ a2.toInt ≤ 3; omega) _ _ (by show 0 ≤ (0 : Int32).toInt ∧ (0 : Int32).toInt ≤ 25; omega) (by show (0 : Int32).toInt + ((25 : Nat) : Int) = 25; omega) (pre0) (pre1) (pre2) (by omega) (fun w23 h27 hr24 hO27 hv27 hp25 hp26 => ?_))
  have hu27 := hv27
  obtain ⟨x28, rfl, f29⟩ := hr24
  show uRun _ (uCall Mt _) _ 12 (_, [(.inl x28)], _, _, _)
  obtain ⟨f31, hc30, k32⟩ := ok_55 hO27
  have t33 := fO_of (k := 1) hc30 rfl
  have q34 := hp25
  rw [t22] at q34
  exact ur_ret rfl rfl (hQ _ _ ⟨_, rfl, f29.trans (by rw [t22])⟩ hO27 hu27 q34)

set_option maxRecDepth 20000 in
set_option maxHeartbeats 4000000 in
theorem sd_X11_act {d kc ks : Nat} {h0 : aH} {Q : Option aV → aH → Prop} (hO0 : OK h0) (a1 : Int32) (a2 : Int32) (a3 : Int32) (pre0 : NA h0) (hQ : ∀ r h', (∃ x : Int32, r = some (.inl x) ∧ ((¬ ((0 ≤ a1.toInt ∧ a1.toInt < fO h0 15 1) ∧ 0 ≤ a2.toInt ∧ a2.toInt ≤ 3) → x.toInt = 0 ∧ fO h' 55 1 = 0) ∧ (((0 ≤ a1.toInt ∧ a1.toInt < fO h0 15 1) ∧ 0 ≤ a2.toInt ∧ a2.toInt ≤ 3) → ∃ (z : Nat) (ow num mo : Int32), wz h0 a1.toInt z ∧ fA h0 z 1 = some (.inl ow) ∧ fA h0 z 0 = some (.inl num) ∧ fA h0 z 8 = some (.inl mo) ∧ x = (cB ow.toInt num mo 25 ow.toInt a2.toInt a3).1 ∧ TRa 56 0 (fO h' 55 1) h0 h' (cB ow.toInt num mo 25 ow.toInt a2.toInt a3).2))) → OK h' → un [56, 6501] h0 h' → (NA h') → Q r h') : uCall Mt (d + 54) 157 [(.inr (.inr (some 0))), (.inl a1), (.inl a2), (.inl a3)] h0 kc ks Q := by
  have l_0 : ((0) : Int32).toInt = 0 := by decide
  have l_3 : ((3) : Int32).toInt = 3 := by decide
  refine uc_ink [some (.inr (.inr (some 0))), some (.inl a1), some (.inl a2), some (.inl a3), none] mt_157 (Nat.le_of_ble_eq_true rfl) rfl ?_
  obtain ⟨f2, hc1, k3⟩ := ok_55 hO0
  have t4 := fO_of (k := 1) hc1 rfl
  obtain ⟨f6, f7, f8, f9, hc5, k10⟩ := ok_15 hO0
  have t11 := fO_of (k := 1) hc5 rfl
  refine ur_ldA rfl rfl ?_
  obtain ⟨hc12, k13⟩ := ok_0 hO0
  refine ur_get rfl hc12 rfl ?_
  refine ur_inl rfl (rcv_of hc1) (Nat.le_of_ble_eq_true rfl) (Nat.le_of_ble_eq_true rfl) (sf_X0_clear hO0  (fun w14 h17 hr15 hO17 hv17 hp16 => ?_))
  have hu17 : un [56, 6501] h0 h17 := hv17.mono (by decide)
  subst hr15
  show uRun _ (uCall Mt _) _ 7 (_, [], _, _, _)
  refine ur_ldA rfl rfl ?_
  refine ur_get rfl (hv17.ko (n := 8) hc12 rfl (wid_f (by decide)) (by decide)) rfl ?_
  refine ur_ldI rfl rfl ?_
  have t18 := fO_of (k := 1) (hv17.ko (n := 11) hc5 rfl (wid_f (by decide)) (by decide)) rfl
  have t19 := fO_keep (a := 15) (ci := 1) (n := 11) (k := 1) hO0 hO17 hv17 (by decide) rfl (by decide) rfl (by decide)
  refine ur_inl rfl (rcv_of (hv17.ko (n := 11) hc5 rfl (wid_f (by decide)) (by decide))) (Nat.le_of_ble_eq_true rfl) (Nat.le_of_ble_eq_true rfl) (se_X1_wordAt hO17 _ (pre0.un hO0 hO17 hv17 (by decide) (by decide)) (fun w20 hr21 => ?_))
  obtain ⟨o22, rfl, k23, t24, t25⟩ := hr21
  show uRun _ (uCall Mt _) _ 15 (_, [(.inr (.inr o22))], _, _, _)
  refine ur_svAk [some (.inr (.inr (some 0))), some (.inl a1), some (.inl a2), some (.inl a3), some (.inr (.inr o22))] rfl rfl ?_
  refine ur_ldA rfl rfl ?_
  cases o22 with
  | none =>
    refine ur_nulN rfl ?_
    have t27 := t24 rfl
    refine ur_push rfl ?_
    obtain ⟨f29, hc28, k30⟩ := ok_55 hO17
    have t31 := fO_of (k := 1) hc28 rfl
    exact ur_ret rfl rfl (hQ _ _ ⟨_, rfl, ⟨fun _ => ⟨by omega, by omega⟩, fun q => by exfalso; omega⟩⟩ hO17 hu17 (pre0.un hO0 hO17 hv17 (by decide) (by decide)))
  | some r26 =>
    refine ur_nulS rfl ?_
    have k32 := k23 _ rfl
    have t33 := t25 _ rfl
    refine ur_ldI rfl rfl ?_
    refine ur_push rfl ?_
    refine ur_push rfl ?_
    refine ur_callv rfl rfl (Nat.le_of_ble_eq_true rfl) (Nat.le_of_ble_eq_true rfl) rfl (sp_within _ _ _ _ _) ?_
    refine ur_neB rfl (fun c36 => ?_) (fun c36 => ?_)
    · have t37 := wi_toL c36 l_0 l_3
      obtain ⟨g54, f39, f40, f41, f42, f43, f44, f45, f46, f47, o51, f48, f49, f50, hc38, k52, k53⟩ := hO17.word k32.2
      refine ur_ldA rfl rfl ?_
      refine ur_get rfl (hv17.ko (n := 8) hc12 rfl (wid_f (by decide)) (by decide)) rfl ?_
      refine ur_ldA rfl rfl ?_
      refine ur_ldI rfl rfl ?_
      refine ur_ldI rfl rfl ?_
      obtain ⟨f56, hc55, k57⟩ := ok_55 hO17
      have t58 := fO_of (k := 1) hc55 rfl
      refine ur_inl rfl (rcv_of hc55) (Nat.le_of_ble_eq_true rfl) (Nat.le_of_ble_eq_true rfl) (sd_X0_perform hO17 g54 k32.2 _ (by show 0 ≤ a2.toInt ∧ a2.toInt ≤ 3; omega) _ (fA_of (k := 1) hc38) (fA_of (k := 0) hc38) (fA_of (k := 8) hc38) (by omega) (fun w59 h62 hr60 hO62 hv62 hp61 => ?_))
      have hu62 := hv62
      obtain ⟨x63, rfl, f64⟩ := hr60
      show uRun _ (uCall Mt _) _ 44 (_, [(.inl x63)], _, _, _)
      obtain ⟨f66, hc65, k67⟩ := ok_55 hO62
      have t68 := fO_of (k := 1) hc65 rfl
      have t69 := fO_of (k := 1) (hv62.ko (n := 11) (hv17.ko (n := 11) hc5 rfl (wid_f (by decide)) (by decide)) rfl (wid_f (by decide)) (by decide)) rfl
      have t70 := fO_keep (a := 15) (ci := 1) (n := 11) (k := 1) hO17 hO62 hv62 (by decide) rfl (by decide) rfl (by decide)
      exact ur_ret rfl rfl (hQ _ _ ⟨_, rfl, ⟨fun q => absurd (by omega) q, fun _ => by have w0 := wz_c (arR_u hO0 hv17 (by decide)) t33.2; exact ⟨r26, _, _, _, w0, ((fA_un hO0 hv17 (wz_ok hO0 w0).1 (wz_ok hO0 w0).2 (by decide) (by decide)).symm.trans (fA_of (k := 1) hc38)), ((fA_un hO0 hv17 (wz_ok hO0 w0).1 (wz_ok hO0 w0).2 (by decide) (by decide)).symm.trans (fA_of (k := 0) hc38)), ((fA_un hO0 hv17 (wz_ok hO0 w0).1 (wz_ok hO0 w0).2 (by decide) (by decide)).symm.trans (fA_of (k := 8) hc38)), f64, by have t := hp61; rw [show fO h17 55 1 = 0 by omega] at t; exact t.b (arI_keep (a := 56) (kd := 0) (n := 24) hO0 hv17 (by decide) rfl (by decide) rfl (by decide) (by decide))⟩⟩⟩ hO62 (hu17.tr hu62) ((pre0.un hO0 hO17 hv17 (by decide) (by decide)).un hO17 hO62 hv62 (by decide) (by decide)))
    · have t71 := wi_noL c36 l_0 l_3
      refine ur_push rfl ?_
      obtain ⟨f73, hc72, k74⟩ := ok_55 hO17
      have t75 := fO_of (k := 1) hc72 rfl
      exact ur_ret rfl rfl (hQ _ _ ⟨_, rfl, ⟨fun _ => ⟨by omega, by omega⟩, fun q => by exfalso; omega⟩⟩ hO17 hu17 (pre0.un hO0 hO17 hv17 (by decide) (by decide)))

set_option maxRecDepth 20000 in
set_option maxHeartbeats 4000000 in
theorem sd_X0_bodyAt {d kc ks : Nat} {h0 : aH} {Q : Option aV → aH → Prop} (hO0 : OK h0) (a1 : Int32) (hQ : ∀ r, (∃ x : Int32, r = some (.inl x) ∧ (((0 ≤ a1.toInt ∧ a1.toInt < fO h0 55 1 ∧ a1.toInt < 24) → x.toInt = gI h0 56 a1.toInt) ∧ (¬ (0 ≤ a1.toInt ∧ a1.toInt < fO h0 55 1 ∧ a1.toInt < 24) → x.toInt = -1))) → Q r h0) : uCall Mt (d + 1) 2 [(.inr (.inr (some 55))), (.inl a1)] h0 kc ks Q := by
  have l_m1 : ((-1) : Int32).toInt = -1 := by decide
  have l_0 : ((0) : Int32).toInt = 0 := by decide
  have l_24 : ((24) : Int32).toInt = 24 := by decide
  refine uc_ink [some (.inr (.inr (some 55))), some (.inl a1)] mt_2 (Nat.le_of_ble_eq_true rfl) rfl ?_
  obtain ⟨f2, hc1, k3⟩ := ok_55 hO0
  have t4 := fO_of (k := 1) hc1 rfl
  refine ur_ldI rfl rfl ?_
  refine ur_if1 rfl (fun c5 => ?_) (fun c5 => ?_)
  · have t6 := lt_to c5
    refine ur_push rfl ?_
    exact ur_ret rfl rfl (hQ _ ⟨_, rfl, ⟨by omega, by omega⟩⟩ )
  · have t7 := lt_no c5
    refine ur_ldI rfl rfl ?_
    refine ur_ldA rfl rfl ?_
    refine ur_get rfl hc1 rfl ?_
    have z8 := any_r a1
    have z9 := any_r f2
    refine ur_if2 rfl (fun c10 => ?_) (fun c10 => ?_)
    · have t11 := le_to c10
      refine ur_push rfl ?_
      exact ur_ret rfl rfl (hQ _ ⟨_, rfl, ⟨by omega, by omega⟩⟩ )
    · have t12 := le_no c10
      refine ur_ldI rfl rfl ?_
      refine ur_push rfl ?_
      refine ur_if2 rfl (fun c13 => ?_) (fun c13 => ?_)
      · have t14 := le_to c13
        refine ur_push rfl ?_
        exact ur_ret rfl rfl (hQ _ ⟨_, rfl, ⟨by omega, by omega⟩⟩ )
      · have t15 := le_no c13
        refine ur_ldA rfl rfl ?_
        refine ur_get rfl hc1 rfl ?_
        refine ur_ldI rfl rfl ?_
        obtain ⟨xs17, hc16, hn18, he19⟩ := hO0.int (hO0.fix 56 (by decide) rfl)
        refine ur_aldV rfl hc16 hn18 (by omega) (fun x20 hx21 => ?_)
        have t22 := gI_of (j := a1) hc16 hx21
        refine ur_go rfl ?_
        exact ur_ret rfl rfl (hQ _ ⟨_, rfl, ⟨by omega, by omega⟩⟩ )

set_option maxRecDepth 20000 in
set_option maxHeartbeats 4000000 in
theorem sd_X11_trace {d kc ks : Nat} {h0 : aH} {Q : Option aV → aH → Prop} (hO0 : OK h0) (a1 : Int32) (hQ : ∀ r, (∃ x : Int32, r = some (.inl x) ∧ (((0 ≤ a1.toInt ∧ a1.toInt < fO h0 55 1 ∧ a1.toInt < 24) → x.toInt = gI h0 56 a1.toInt) ∧ (¬ (0 ≤ a1.toInt ∧ a1.toInt < fO h0 55 1 ∧ a1.toInt < 24) → x.toInt = -1))) → Q r h0) : uCall Mt (d + 2) 158 [(.inr (.inr (some 0))), (.inl a1)] h0 kc ks Q := by
  refine uc_ink [some (.inr (.inr (some 0))), some (.inl a1)] mt_158 (Nat.le_of_ble_eq_true rfl) rfl ?_
  obtain ⟨f2, hc1, k3⟩ := ok_55 hO0
  have t4 := fO_of (k := 1) hc1 rfl
  refine ur_ldA rfl rfl ?_
  obtain ⟨hc5, k6⟩ := ok_0 hO0
  refine ur_get rfl hc5 rfl ?_
  refine ur_ldI rfl rfl ?_
  refine ur_inl rfl (rcv_of hc1) (Nat.le_of_ble_eq_true rfl) (Nat.le_of_ble_eq_true rfl) (sd_X0_bodyAt hO0 _ (fun w7 hr8 => ?_))
  obtain ⟨x9, rfl, t10⟩ := hr8
  show uRun _ (uCall Mt _) _ 8 (_, [(.inl x9)], _, _, _)
  exact ur_ret rfl rfl (hQ _ ⟨_, rfl, ⟨by omega, by omega⟩⟩ )

set_option maxRecDepth 20000 in
set_option maxHeartbeats 4000000 in
theorem sd_X12_trace {d kc ks : Nat} {h0 : aH} {Q : Option aV → aH → Prop} (hO0 : OK h0) (a1 : Int32) (hQ : ∀ r, (∃ x : Int32, r = some (.inl x) ∧ (((0 ≤ a1.toInt ∧ a1.toInt < fI h0 63 ∧ a1.toInt < 24) → x.toInt = gI h0 109 a1.toInt) ∧ (¬ (0 ≤ a1.toInt ∧ a1.toInt < fI h0 63 ∧ a1.toInt < 24) → x.toInt = -1))) → Q r h0) : uCall Mt (d + 1) 294 [(.inr (.inr (some 69))), (.inl a1)] h0 kc ks Q := by
  have l_m1 : ((-1) : Int32).toInt = -1 := by decide
  have l_0 : ((0) : Int32).toInt = 0 := by decide
  have l_24 : ((24) : Int32).toInt = 24 := by decide
  refine uc_ink [some (.inr (.inr (some 69))), some (.inl a1)] mt_294 (Nat.le_of_ble_eq_true rfl) rfl ?_
  obtain ⟨fs1, hc2⟩ := hO0.mod
  obtain ⟨f3, p4, t5⟩ := mf_63 hO0 hc2
  have t6 := fI_of hc2 p4
  refine ur_ldI rfl rfl ?_
  refine ur_if1 rfl (fun c7 => ?_) (fun c7 => ?_)
  · have t8 := lt_to c7
    refine ur_push rfl ?_
    exact ur_ret rfl rfl (hQ _ ⟨_, rfl, ⟨by omega, by omega⟩⟩ )
  · have t9 := lt_no c7
    refine ur_ldI rfl rfl ?_
    refine ur_ldA rfl rfl ?_
    refine ur_get rfl hc2 p4 ?_
    have z10 := any_r a1
    have z11 := any_r f3
    refine ur_if2 rfl (fun c12 => ?_) (fun c12 => ?_)
    · have t13 := le_to c12
      refine ur_push rfl ?_
      exact ur_ret rfl rfl (hQ _ ⟨_, rfl, ⟨by omega, by omega⟩⟩ )
    · have t14 := le_no c12
      refine ur_ldI rfl rfl ?_
      refine ur_push rfl ?_
      refine ur_if2 rfl (fun c15 => ?_) (fun c15 => ?_)
      · have t16 := le_to c15
        refine ur_push rfl ?_
        exact ur_ret rfl rfl (hQ _ ⟨_, rfl, ⟨by omega, by omega⟩⟩ )
      · have t17 := le_no c15
        refine ur_ldA rfl rfl ?_
        refine ur_get rfl hc2 (mf_64 hO0 hc2) ?_
        refine ur_ldI rfl rfl ?_
        obtain ⟨xs19, hc18, hn20, he21⟩ := hO0.int (hO0.fix 109 (by decide) rfl)
        refine ur_aldV rfl hc18 hn20 (by omega) (fun x22 hx23 => ?_)
        have t24 := gI_of (j := a1) hc18 hx23
        refine ur_go rfl ?_
        exact ur_ret rfl rfl (hQ _ ⟨_, rfl, ⟨by omega, by omega⟩⟩ )
end ACT
