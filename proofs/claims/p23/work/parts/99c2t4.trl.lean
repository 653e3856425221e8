/-! TEXTS OF THE REFERENCE, exactly; printed by program but for its head -/
section TRL
/- the lines of the reference -/
def toks : List (List (Int × Int) × List (Int × Int)) → List (Int × Int)
  | [] => []
  | l :: ls => l.1 ++ l.2 ++ toks ls
def tes : Int → List (List (Int × Int) × List (Int × Int)) → List Int
  | _, [] => []
  | n, l :: ls => (n + l.1.length) :: tes (n + l.1.length + l.2.length) ls
def les : Int → List (List (Int × Int) × List (Int × Int)) → List Int
  | _, [] => []
  | n, l :: ls => (n + l.1.length + l.2.length) :: les (n + l.1.length + l.2.length) ls
theorem toks_app : ∀ (a : List (List (Int × Int) × List (Int × Int))) (l : List (Int × Int) × List (Int × Int)), toks (a ++ [l]) = toks a ++ l.1 ++ l.2
  | [], l => by
    show l.1 ++ l.2 ++ [] = [] ++ l.1 ++ l.2
    simp
  | m :: a, l => by
    show m.1 ++ m.2 ++ toks (a ++ [l]) = m.1 ++ m.2 ++ toks a ++ l.1 ++ l.2
    rw [toks_app a l]
    simp
theorem tes_app : ∀ (n : Int) (a : List (List (Int × Int) × List (Int × Int))) (l : List (Int × Int) × List (Int × Int)), tes n (a ++ [l]) = tes n a ++ [n + (toks a).length + l.1.length]
  | n, [], l => by
    show [n + (l.1.length : Int)] = [] ++ [n + (([] : List (Int × Int)).length : Int) + l.1.length]
    simp
  | n, m :: a, l => by
    show (n + (m.1.length : Int)) :: tes (n + m.1.length + m.2.length) (a ++ [l]) = (n + (m.1.length : Int)) :: tes (n + m.1.length + m.2.length) a ++ [n + ((m.1 ++ m.2 ++ toks a).length : Int) + l.1.length]
    rw [tes_app]
    simp only [List.length_append, List.cons_append]
    congr 3
    push_cast
    omega
theorem les_app : ∀ (n : Int) (a : List (List (Int × Int) × List (Int × Int))) (l : List (Int × Int) × List (Int × Int)), les n (a ++ [l]) = les n a ++ [n + (toks a).length + l.1.length + l.2.length]
  | n, [], l => by
    show [n + (l.1.length : Int) + l.2.length] = [] ++ [n + (([] : List (Int × Int)).length : Int) + l.1.length + l.2.length]
    simp
  | n, m :: a, l => by
    show (n + (m.1.length : Int) + m.2.length) :: les (n + m.1.length + m.2.length) (a ++ [l]) = (n + (m.1.length : Int) + m.2.length) :: les (n + m.1.length + m.2.length) a ++ [n + ((m.1 ++ m.2 ++ toks a).length : Int) + l.1.length + l.2.length]
    rw [les_app]
    simp only [List.length_append, List.cons_append]
    congr 3
    push_cast
    omega
theorem tes_len : ∀ (n : Int) (a : List (List (Int × Int) × List (Int × Int))), (tes n a).length = a.length
  | _, [] => rfl
  | n, m :: a => congrArg (· + 1) (tes_len _ a)
theorem les_len : ∀ (n : Int) (a : List (List (Int × Int) × List (Int × Int))), (les n a).length = a.length
  | _, [] => rfl
  | n, m :: a => congrArg (· + 1) (les_len _ a)
/-- the ends that a row tells of a place's lines -/
def rEp (h : aH) (a p : Nat) (xs : List Int) : Prop := ∀ i, i < xs.length → ((arI h a).getD (61 * p + i) 0).toInt = xs.getD i 0
theorem rEp.snoc {h h' : aH} {a p : Nat} {xs : List Int} {v : Int} (g : rEp h a p xs) (k : ∀ i, i < xs.length → (arI h' a)[61 * p + i]? = (arI h a)[61 * p + i]?) (e : ((arI h' a).getD (61 * p + xs.length) 0).toInt = v) : rEp h' a p (xs ++ [v]) := fun i hi => by
  rw [List.length_append, List.length_singleton] at hi
  by_cases q : i < xs.length
  · rw [gd_eq (k i q), g i q, List.getD_eq_getElem?_getD, List.getD_eq_getElem?_getD, List.getElem?_append_left q]
  · have r : i = xs.length := by omega
    subst r
    rw [e, List.getD_eq_getElem?_getD, List.getElem?_append_right (Nat.le_refl _), Nat.sub_self]
    rfl
theorem rEp.nil {h : aH} {a p : Nat} : rEp h a p [] := fun i hi => absurd hi (by simp)
theorem rEp.keep {h h' : aH} {a p q : Nat} {xs : List Int} (g : rEp h a p xs) (k : ∀ i, i < xs.length → (arI h' a)[61 * q + i]? = (arI h a)[61 * p + i]?) : rEp h' a q xs := fun i hi => by
  rw [gd_eq (k i hi)]
  exact g i hi
/-- the lines that are being read -/
def RLw (h : aH) (ls : List (List (Int × Int) × List (Int × Int))) : Prop := lm h = ls.length ∧ tkR h = toks ls ∧ rEp h 86 11 (tes 0 ls) ∧ rEp h 87 11 (les 0 ls)
def RLl (t : Int → Int) (h : aH) (p : Int) : Prop := ∃ ls, Txl t ls p ∧ RLw h ls
def RLh (t : Int → Int) (h : aH) (f p : Int) : Prop := (f < 0 ∧ ∃ ls, Txh t ls p ∧ RLw h ls) ∨ (0 ≤ f ∧ Txf t f)
theorem tkR_len {h : aH} (hO : OK h) (h0 : 0 ≤ fI h 23 ∧ fI h 23 ≤ 130) : ((tkR h).length : Int) = fI h 23 := by
  obtain ⟨xs, hc, hn, -⟩ := hO.byt (hO.fix 83 (by decide) rfl)
  obtain ⟨ys, hd, hm, -⟩ := hO.int (hO.fix 84 (by decide) rfl)
  unfold tkR seg
  rw [List.length_map, List.length_take, List.length_drop, List.length_zip, arI_of hc, arI_of hd, hn, hm]
  unfold iL
  omega
theorem RLl.z {t : Int → Int} {h : aH} {p : Int} (e : p = 0) (el : lm h = 0) (f : fI h 23 = 0) : RLl t h p := by
  subst e
  exact ⟨[], Txl.z, el, tkR_nil f, rEp.nil, rEp.nil⟩
theorem RLw.more {h0 h' : aH} {ls : List (List (Int × Int) × List (Int × Int))} {a b : List (Int × Int)} {te le : Int32} (H : RLw h0 ls) (et : tkR h' = tkR h0 ++ a ++ b) (hl : ((tkR h0).length : Int) = fI h0 23) (Kq : kq h0 h' (671 + (lm h0).toNat)) (e6 : (arI h' 86).getD (671 + (lm h0).toNat) 0 = te) (e7 : (arI h' 87).getD (671 + (lm h0).toNat) 0 = le) (v6 : te.toInt = fI h0 23 + a.length) (v7 : le.toInt = fI h0 23 + a.length + b.length) (elm : lm h' = lm h0 + 1) : RLw h' (ls ++ [(a, b)]) := by
  obtain ⟨h1, h2, h3, h4⟩ := H
  have hn : (lm h0).toNat = ls.length := by omega
  rw [hn] at Kq e6 e7
  rw [h2] at hl
  refine ⟨by rw [elm, h1, List.length_append]; rfl, by rw [et, h2, toks_app], ?_, ?_⟩
  · rw [tes_app]
    refine h3.snoc (fun i hi => ?_) ?_
    · rw [tes_len] at hi
      exact (Kq (61 * 11 + i) (by omega)).1
    · rw [tes_len, show 61 * 11 + ls.length = 671 + ls.length from rfl, e6, v6]
      show fI h0 23 + (a.length : Int) = 0 + ((toks ls).length : Int) + (a.length : Int)
      omega
  · rw [les_app]
    refine h4.snoc (fun i hi => ?_) ?_
    · rw [les_len] at hi
      exact (Kq (61 * 11 + i) (by omega)).2
    · rw [les_len, show 61 * 11 + ls.length = 671 + ls.length from rfl, e7, v7]
      show fI h0 23 + (a.length : Int) + (b.length : Int) = 0 + ((toks ls).length : Int) + (a.length : Int) + (b.length : Int)
      omega
theorem len_app {u v e : List (Int × Int)} {n m : Int} (h : v = u ++ e) (hu : (u.length : Int) = n) (hv : (v.length : Int) = m) : m = n + e.length := by
  rw [h, List.length_append] at hv
  omega
theorem RLl.no {t : Int → Int} {h0 h' : aH} {p p0 o f1 o1 p1 f2 p2 : Int} {u0 u1 : List (Int × Int)} {te le : Int32} (H : RLl t h0 p) (g : ROt t 5 o p0 u0 f1 o1 p1 u1) (eo : o = 0) (ep : p0 = p) (eu : u0 = tkR h0) (et : tkR h' = u1) (hn : f1 < 0 → t p1 ≠ 63) (e2 : f2 = f1 ∧ p2 = p1) (hl : ((tkR h0).length : Int) = fI h0 23) (hl' : f1 < 0 → ((tkR h').length : Int) = fI h' 23) (Kq : f1 < 0 → kq h0 h' (671 + (lm h0).toNat)) (e6 : (arI h' 86).getD (671 + (lm h0).toNat) 0 = te) (e7 : (arI h' 87).getD (671 + (lm h0).toNat) 0 = le) (v6 : te.toInt = fI h0 23) (v7 : le.toInt = fI h' 23) (elm : lm h' = lm h0 + 1) : RLh t h' f2 p2 := by
  obtain ⟨e2, e3⟩ := e2
  rw [eo, ep, eu] at g
  rw [e2, e3]
  obtain ⟨ls, a, H⟩ := H
  rcases g with ⟨b, -, e, e9, g⟩ | ⟨b, g⟩
  · have w := len_app (et.trans e9) hl (hl' b)
    refine Or.inl ⟨b, ls ++ [([], e)], a.no g (hn b), H.more (by rw [et, e9]; simp) hl (Kq b) e6 e7 (by simp; exact v6) (by simp; omega) elm⟩
  · exact Or.inr ⟨b, a.fl g⟩
theorem RLl.tb {t : Int → Int} {h0 h' : aH} {p p0 o f1 o1 p1 q o2 f2 o3 p2 f3 p3 : Int} {u0 u1 v0 v1 : List (Int × Int)} {te le : Int32} (H : RLl t h0 p) (g : ROt t 5 o p0 u0 f1 o1 p1 u1) (eo : o = 0) (ep : p0 = p) (eu : u0 = tkR h0) (hf : f1 < 0) (hq : t p1 = 63) (b : ROt t 5 o2 q v0 f2 o3 p2 v1) (eo2 : o2 = 0) (eq : q = p1 + 1) (ev : v0 = u1) (et : tkR h' = v1) (e2 : f3 = f2 ∧ p3 = p2) (hl : ((tkR h0).length : Int) = fI h0 23) {n1 : Int} (hm : (u1.length : Int) = n1) (hl' : f2 < 0 → ((tkR h').length : Int) = fI h' 23) (Kq : f2 < 0 → kq h0 h' (671 + (lm h0).toNat)) (e6 : (arI h' 86).getD (671 + (lm h0).toNat) 0 = te) (e7 : (arI h' 87).getD (671 + (lm h0).toNat) 0 = le) (v6 : te.toInt = n1) (v7 : le.toInt = fI h' 23) (elm : lm h' = lm h0 + 1) : RLh t h' f3 p3 := by
  obtain ⟨e2, e3⟩ := e2
  rw [eo, ep, eu] at g
  rw [eo2, eq, ev] at b
  rw [e2, e3]
  obtain ⟨ls, a, H⟩ := H
  rcases g with ⟨-, -, e, e9, g⟩ | ⟨c, g⟩
  · have w1 := len_app e9 hl hm
    rcases b with ⟨d, -, f, e8, b⟩ | ⟨d, b⟩
    · have w2 := len_app (et.trans e8) hm (hl' d)
      exact Or.inl ⟨d, ls ++ [(e, f)], a.tb g hq b, H.more (by rw [et, e8, e9]) hl (Kq d) e6 e7 (by omega) (by omega) elm⟩
    · exact Or.inr ⟨d, a.fb g hq b⟩
  · omega
theorem RLh.go {t : Int → Int} {h h' : aH} {f p p2 : Int} (H : RLh t h f p) (hf : f < 0) (hq : t p = 59) (ep : p2 = p + 1) (k : ∀ ls, RLw h ls → RLw h' ls) : RLl t h' p2 := by
  subst ep
  rcases H with ⟨-, ls, a, b⟩ | ⟨a, -⟩
  · exact ⟨ls, a.go hq, k ls b⟩
  · omega
/-- a text that stands at its place -/
def RLn (h : aH) (p : Nat) (ls : List (List (Int × Int) × List (Int × Int))) : Prop := ls.length ≤ 61 ∧ (toks ls).length ≤ 130 ∧ ((arI h 85).getD p 0).toInt = ls.length ∧ (seg (arI h 83) (arI h 84) (130 * p) (130 * p + (toks ls).length)).map (fun q => (q.1.toInt, q.2.toInt)) = toks ls ∧ rEp h 86 p (tes 0 ls) ∧ rEp h 87 p (les 0 ls)
/-- what is there of the places of all texts stays -/
def KN (h h' : aH) : Prop := kp h h' 1430 ∧ kq h h' 671 ∧ km h h'
theorem KN.rf {h : aH} : KN h h := ⟨kp.rf, fun _ _ => ⟨rfl, rfl⟩, fun _ _ => rfl⟩
theorem KN.tr {a b c : aH} (g : KN a b) (f : KN b c) : KN a c := ⟨g.1.tr f.1 (Nat.le_refl _), fun i hi => ⟨(f.2.1 i hi).1.trans (g.2.1 i hi).1, (f.2.1 i hi).2.trans (g.2.1 i hi).2⟩, fun i hi => (f.2.2 i hi).trans (g.2.2 i hi)⟩
theorem KN.un {W : List Nat} {h h' : aH} (hO : OK h) (g : un W h h') (w3 : 83 ∉ W) (w4 : 84 ∉ W) (w5 : 85 ∉ W) (w6 : 86 ∉ W) (w7 : 87 ∉ W) : KN h h' := ⟨kp_un hO g w3 w4 _, kq_un hO g w6 w7 _, fun i _ => by rw [arI_keep (a := 85) hO g (by decide) rfl (by decide) rfl (by decide) w5]⟩
theorem RLn.keep {h h' : aH} {p : Nat} {ls : List (List (Int × Int) × List (Int × Int))} (H : RLn h p ls) (k : KN h h') (hp : p < 11) : RLn h' p ls := by
  obtain ⟨a1, a2, a3, a4, a5, a6⟩ := H
  refine ⟨a1, a2, by rw [gd_eq (k.2.2 p hp)]; exact a3, ?_, a5.keep (fun i hi => (k.2.1 _ ?_).1), a6.keep (fun i hi => (k.2.1 _ ?_).2)⟩
  · rw [seg_same (fun m hm => k.1 m (by omega))]
    exact a4
  · rw [tes_len] at hi
    omega
  · rw [les_len] at hi
    omega
theorem RL_copied {h h' : aH} {p n L : Nat} {ls : List (List (Int × Int) × List (Int × Int))} (hp : p < 11) (H : RLw h ls) (f : fI h 23 = L) (hL0 : ((tkR h).length : Int) = fI h 23) (hm : lm h = n) (c3 : cp (arI h 83) (arI h' 83) 1430 (130 * p) L) (c4 : cp (arI h 84) (arI h' 84) 1430 (130 * p) L) (c6 : cp (arI h 86) (arI h' 86) 671 (61 * p) n) (c7 : cp (arI h 87) (arI h' 87) 671 (61 * p) n) (e5p : iN ((arI h' 85).getD p 0) = n) (hn : n ≤ 61) (hL : L ≤ 130) (hO : OK h') : RLn h' p ls := by
  obtain ⟨h1, h2, h3, h4⟩ := H
  have e1 : ls.length = n := by omega
  have e2 : (toks ls).length = L := by rw [h2] at hL0; omega
  refine ⟨by omega, by omega, ?_, ?_, h3.keep (fun i hi => ?_), h4.keep (fun i hi => ?_)⟩
  · have r := many_le hO p
    obtain ⟨xs, hc, hnx, he⟩ := hO.int (hO.fix 85 (by decide) rfl)
    rw [arI_of hc] at e5p ⊢
    rw [List.getD_eq_getElem?_getD] at e5p ⊢
    have g : 0 ≤ (xs[p]?.getD 0).toInt := by
      cases q : xs[p]? with
      | none => decide
      | some y =>
        have := he _ _ q
        have z : 0 ≤ y.toInt ∧ y.toInt ≤ 61 := this
        exact z.1
    unfold iN at e5p
    omega
  · rw [e2]
    have e := seg_shift (a := 130 * p) (b := 1430) (i := 0) (j := L) (A := arI h 83) (B := arI h 84) (A' := arI h' 83) (B' := arI h' 84) (fun x hx => ⟨by rw [c3, if_pos (by omega), show 1430 + (130 * p + x - 130 * p) = 1430 + x by omega], by rw [c4, if_pos (by omega), show 1430 + (130 * p + x - 130 * p) = 1430 + x by omega]⟩)
    rw [Nat.add_zero, Nat.add_zero] at e
    rw [e, ← h2]
    unfold tkR iL
    rw [show (fI h 23).toNat + 1430 = 1430 + L by omega]
  · rw [tes_len] at hi
    rw [c6, if_pos (by omega), show 671 + (61 * p + i - 61 * p) = 61 * 11 + i by omega]
  · rw [les_len] at hi
    rw [c7, if_pos (by omega), show 671 + (61 * p + i - 61 * p) = 61 * 11 + i by omega]
theorem RL_other {h h' : aH} {p q n L : Nat} {ls : List (List (Int × Int) × List (Int × Int))} (H : RLn h q ls) (hq : q < 11) (hne : q ≠ p) (c3 : cp (arI h 83) (arI h' 83) 1430 (130 * p) L) (c4 : cp (arI h 84) (arI h' 84) 1430 (130 * p) L) (c6 : cp (arI h 86) (arI h' 86) 671 (61 * p) n) (c7 : cp (arI h 87) (arI h' 87) 671 (61 * p) n) (e5 : ∀ i, i < 11 → i ≠ p → (arI h' 85)[i]? = (arI h 85)[i]?) (hn : n ≤ 61) (hL : L ≤ 130) : RLn h' q ls := by
  obtain ⟨a1, a2, a3, a4, a5, a6⟩ := H
  refine ⟨a1, a2, by rw [gd_eq (e5 q hq hne)]; exact a3, ?_, a5.keep (fun i hi => ?_), a6.keep (fun i hi => ?_)⟩
  · have e := seg_shift (a := 130 * q) (b := 130 * q) (i := 0) (j := (toks ls).length) (A := arI h 83) (B := arI h 84) (A' := arI h' 83) (B' := arI h' 84) (fun x hx => ⟨by rw [c3, if_neg (by omega)], by rw [c4, if_neg (by omega)]⟩)
    rw [Nat.add_zero] at e
    rw [e]
    exact a4
  · rw [tes_len] at hi
    rw [c6, if_neg (by omega)]
  · rw [les_len] at hi
    rw [c7, if_neg (by omega)]
/-- what a text call answers and leaves of the reference -/
def RTt (t : Int → Int) (h' : aH) (p : Nat) (x : Int) : Prop := (x = 1 ∧ ∃ ls, Txd t ls ∧ RLn h' p ls) ∨ ∃ f, 0 ≤ f ∧ x = -100 - f ∧ Txf t f
theorem RLh.fault {t : Int → Int} {h h' : aH} {f p x g : Int} {q : Nat} (H : RLh t h f p) (hx : (0 ≤ f ∧ g = f) ∨ (f < 0 ∧ t p ≠ 59 ∧ t p ≠ -1 ∧ 0 ≤ p ∧ g = p)) (e : x = -100 - g) : RTt t h' q x := by
  rcases H with ⟨a, ls, b, -⟩ | ⟨a, b⟩
  · rcases hx with ⟨c, -⟩ | ⟨-, c1, c2, c3, c4⟩
    · omega
    · subst c4
      exact Or.inr ⟨g, c3, e, b.fl c1 c2⟩
  · rcases hx with ⟨-, c⟩ | ⟨c, -⟩
    · subst c
      exact Or.inr ⟨g, a, e, b⟩
    · omega
theorem RLh.good {t : Int → Int} {h : aH} {f p : Int} (H : RLh t h f p) (hf : f < 0) (hp : t p = -1) : ∃ ls, Txd t ls ∧ RLw h ls := by
  rcases H with ⟨a, ls, b, c⟩ | ⟨a, b⟩
  · exact ⟨ls, b.done hp, c⟩
  · omega
def tR (h : aH) : Int → Int := fun p => if 0 ≤ p ∧ p < fI h 19 then (if gI h 82 p < 0 then gI h 82 p + 256 else gI h 82 p) else -1
def BR (h : aH) : Prop := ∀ p, 0 ≤ p → p < fI h 19 → -128 ≤ gI h 82 p ∧ gI h 82 p ≤ 127
theorem BR.ts {h : aH} (b : BR h) : tS h (tR h) := fun p => by
  refine ⟨fun q => ?_, fun q => by unfold tR; rw [if_neg q]⟩
  have g := b p q.1 q.2
  unfold tR
  rw [if_pos q]
  by_cases k : gI h 82 p < 0
  · rw [if_pos k]
    exact Or.inr (by omega)
  · rw [if_neg k]
    exact Or.inl (by omega)
theorem tS.nn {h : aH} {t : Int → Int} {q : Int} (e : tS h t) (h0 : 0 ≤ q) (h1 : q < fI h 19) : t q ≠ -1 := by
  rcases (e q).1 ⟨h0, h1⟩ with g | g <;> omega
theorem rEp.c {h h' : aH} {a p : Nat} {xs : List Int} (g : rEp h a p xs) (e : h'[a]? = h[a]?) : rEp h' a p xs := g.keep (fun i _ => by rw [arI_c e])
theorem RLw.c {h h' : aH} {ls : List (List (Int × Int) × List (Int × Int))} (H : RLw h ls) (e : ∀ b, b ≠ 69 → h'[b]? = h[b]?) (f : fI h' 23 = fI h 23) : RLw h' ls := by
  obtain ⟨a, b, c, d⟩ := H
  refine ⟨(lm_c (e 85 (by decide))).trans a, (Eq.trans ?_ b), c.c (e 86 (by decide)), d.c (e 87 (by decide))⟩
  exact tkR_kp (fun i _ => by rw [arI_c (e 83 (by decide)), arI_c (e 84 (by decide))]; exact ⟨rfl, rfl⟩) f
theorem plN_e {u : Int} {x : Int32} (h : u < 2 ∧ x.toInt = u ∨ 2 ≤ u ∧ x.toInt = u - 8) : plN u = iN x := by
  unfold plN iN
  by_cases q : u < 2
  · rw [if_pos q]
    omega
  · rw [if_neg q]
    omega
set_option maxRecDepth 20000 in
set_option maxHeartbeats 4000000 in
theorem st_X12_line {d kc ks : Nat} {h0 : aH} {Q : Option aV → aH → Prop} {t : Int → Int} (hO0 : OK h0)  (pre0 : 0 ≤ fI h0 20 ∧ fI h0 20 ≤ fI h0 19 ∧ fI h0 21 < 0 ∧ fI h0 23 ≤ fI h0 20) (pre1 : 0 ≤ fI h0 22 ∧ fI h0 22 ≤ 6) (pre2 : 2 * lm h0 ≤ fI h0 20) (pre3 : TX h0) (pre4 : TL h0) (pre5 : fI h0 22 = 0) (pre6 : tS h0 t) (pre7 : RLl t h0 (fI h0 20)) (hQ : ∀ r h', (r = none) → OK h' → un [83, 84, 85, 86, 87] h0 h' → (fI h0 20 ≤ fI h' 20 ∧ fI h' 20 ≤ fI h' 19 ∧ fI h' 19 = fI h0 19 ∧ lm h' = lm h0 + 1 ∧ 1 ≤ lm h' ∧ lm h' ≤ 61) → (fI h' 21 < 0 → fI h' 23 ≤ fI h' 20 ∧ fI h0 20 + 1 ≤ fI h' 20 ∧ fI h' 22 = fI h0 22) → (TX h') → (fI h' 21 < 0 → TL h') → (fI h' 21 ≤ fI h' 19) → (KN h0 h') → (RLh t h' (fI h' 21) (fI h' 20)) → Q r h') : uCall Mt (d + 46) 225 [(.inr (.inr (some 69)))] h0 kc ks Q := by
  have l_0 : ((0) : Int32).toInt = 0 := by decide
  have l_1 : ((1) : Int32).toInt = 1 := by decide
  have l_11 : ((11) : Int32).toInt = 11 := by decide
  have l_63 : ((63) : Int32).toInt = 63 := by decide
  have l_671 : ((671) : Int32).toInt = 671 := by decide
  refine uc_ink [some (.inr (.inr (some 69))), none] mt_225 (Nat.le_of_ble_eq_true rfl) rfl ?_
  obtain ⟨fs1, hc2⟩ := hO0.mod
  obtain ⟨f3, p4, t5⟩ := mf_19 hO0 hc2
  have t6 := fI_of hc2 p4
  obtain ⟨f7, p8⟩ := mf_20 hO0 hc2
  have t9 := fI_of hc2 p8
  obtain ⟨f10, p11⟩ := mf_21 hO0 hc2
  have t12 := fI_of hc2 p11
  obtain ⟨f13, p14⟩ := mf_22 hO0 hc2
  have t15 := fI_of hc2 p14
  obtain ⟨f16, p17, t18⟩ := mf_23 hO0 hc2
  have t19 := fI_of hc2 p17
  obtain ⟨xs21, hc20, hn22, he23⟩ := hO0.int (hO0.fix 85 (by decide) rfl)
  obtain ⟨xs25, hc24, hn26, he27⟩ := hO0.sho (hO0.fix 86 (by decide) rfl)
  obtain ⟨xs29, hc28, hn30, he31⟩ := hO0.sho (hO0.fix 87 (by decide) rfl)
  refine ur_push rfl ?_
  refine ur_ldA rfl rfl ?_
  refine ur_get rfl hc2 (mf_26 hO0 hc2) ?_
  refine ur_push rfl ?_
  refine ur_aldV rfl hc20 hn22 (by omega) (fun x32 hx33 => ?_)
  have t34 : 0 ≤ x32.toInt ∧ x32.toInt ≤ 61 := he23 _ _ hx33
  have t35 := lm_of hc20 hx33
  refine ur_binV rfl (fun x36 e37 => ?_)
  have z38 := any_r x32
  have t39 := ti_add e37 (by omega) (by omega)
  refine ur_svIk [some (.inr (.inr (some 69))), some (.inl x36)] rfl rfl ?_
  refine ur_ldA rfl rfl ?_
  refine ur_get rfl hc2 (mf_27 hO0 hc2) ?_
  refine ur_ldI rfl rfl ?_
  refine ur_ldA rfl rfl ?_
  refine ur_get rfl hc2 p17 ?_
  refine ur_unV rfl (fun x40 e41 => ?_)
  have t42 : x40.toInt = f16.toInt := by rw [← e41]; exact nar_s (by omega)
  have t45 : (vp_nar .short x40).toInt = x40.toInt := nar_vs (by omega)
  refine ur_astV (W := [86]) (m := 732) rfl hO0 hc24 (by decide) hn26 (by omega) (by show 0 ≤ (vp_nar .short x40).toInt ∧ (vp_nar .short x40).toInt ≤ 130; rw [nar_vs (by omega)]; omega) (Or.inr (Or.inr (wid_fix (by decide) (by decide)))) (fun h46 hO46 hv46 d43 hc44 => ?_)
  have hu46 : un [83, 84, 85, 86, 87] h0 h46 := hv46.mono (by decide)
  refine ur_ldA rfl rfl ?_
  have t47 := fI_of ((d43 _ (by decide)).trans hc2) p4
  have t48 := fI_of ((d43 _ (by decide)).trans hc2) p8
  have t49 := fI_of ((d43 _ (by decide)).trans hc2) p11
  have t50 := fI_of ((d43 _ (by decide)).trans hc2) p14
  have t51 := fI_of ((d43 _ (by decide)).trans hc2) p17
  have t52 := fI_keep (k := 19) hO0 hO46 hv46 rfl (by decide)
  refine ur_inl rfl (rcv_of ((d43 _ (by decide)).trans hc2)) (Nat.le_of_ble_eq_true rfl) (Nat.le_of_ble_eq_true rfl) (st_X12_rE hO46 (pre6.un hO0 hO46 hv46 (by decide) (by decide)) (by omega) (by omega) (fun w53 h62 hr54 hO62 hv62 hp55 hp56 hp57 hp58 hp59 hp60 hp61 => ?_))
  have hu62 : un [83, 84, 85, 86, 87] h46 h62 := hv62.mono (by decide)
  subst hr54
  show uRun _ (uCall Mt _) _ 27 (_, [], _, _, _)
  obtain ⟨fs63, hc64⟩ := hO62.mod
  obtain ⟨f65, p66, t67⟩ := mf_19 hO62 hc64
  have t68 := fI_of hc64 p66
  obtain ⟨f69, p70⟩ := mf_20 hO62 hc64
  have t71 := fI_of hc64 p70
  obtain ⟨f72, p73⟩ := mf_21 hO62 hc64
  have t74 := fI_of hc64 p73
  obtain ⟨f75, p76⟩ := mf_22 hO62 hc64
  have t77 := fI_of hc64 p76
  obtain ⟨f78, p79, t80⟩ := mf_23 hO62 hc64
  have t81 := fI_of hc64 p79
  refine ur_ldA rfl rfl ?_
  refine ur_get rfl hc64 p73 ?_
  refine ur_if1 rfl (fun c82 => ?_) (fun c82 => ?_)
  · have t83 := le_to c82
    refine ur_ldA rfl rfl ?_
    refine ur_get rfl hc64 (mf_28 hO62 hc64) ?_
    refine ur_ldI rfl rfl ?_
    refine ur_ldA rfl rfl ?_
    refine ur_get rfl hc64 p79 ?_
    refine ur_unV rfl (fun x84 e85 => ?_)
    have t86 : x84.toInt = f78.toInt := by rw [← e85]; exact nar_s (by omega)
    have t89 : (vp_nar .short x84).toInt = x84.toInt := nar_vs (by omega)
    refine ur_astV (W := [87]) (m := 732) rfl hO62 (hv62.ka (n := 732) ((d43 _ (by decide)).trans hc28) hn30 rfl (by decide) (wid_f (by decide)) (by decide)) (by decide) hn30 (by omega) (by show 0 ≤ (vp_nar .short x84).toInt ∧ (vp_nar .short x84).toInt ≤ 130; rw [nar_vs (by omega)]; omega) (Or.inr (Or.inr (wid_fix (by decide) (by decide)))) (fun h90 hO90 hv90 d87 hc88 => ?_)
    have hu90 : un [83, 84, 85, 86, 87] h62 h90 := hv90.mono (by decide)
    refine ur_ldA rfl rfl ?_
    refine ur_get rfl ((d87 _ (by decide)).trans hc64) (mf_26 hO90 ((d87 _ (by decide)).trans hc64)) ?_
    refine ur_push rfl ?_
    refine ur_dup2 rfl rfl rfl ?_
    refine ur_aldV rfl ((d87 _ (by decide)).trans (hv62.ka (n := 12) ((d43 _ (by decide)).trans hc20) hn22 rfl (by decide) (wid_f (by decide)) (by decide))) hn22 (by omega) (fun x91 hx92 => ?_)
    obtain rfl : x32 = x91 := Option.some.inj (hx33.symm.trans hx92)
    refine ur_push rfl ?_
    refine ur_binV rfl (fun x93 e94 => ?_)
    have t95 := ti_add e94 (by omega) (by omega)
    refine ur_astV (W := [85]) (m := 12) rfl hO90 ((d87 _ (by decide)).trans (hv62.ka (n := 12) ((d43 _ (by decide)).trans hc20) hn22 rfl (by decide) (wid_f (by decide)) (by decide))) (by decide) hn22 (by omega) (by show 0 ≤ x93.toInt ∧ x93.toInt ≤ 61; omega) (Or.inr (Or.inr (wid_fix (by decide) (by decide)))) (fun h98 hO98 hv98 d96 hc97 => ?_)
    have hu98 : un [83, 84, 85, 86, 87] h90 h98 := hv98.mono (by decide)
    have t99 := lm_set hc97 (by omega) (by omega)
    have t100 := fI_of ((d96 _ (by decide)).trans ((d87 _ (by decide)).trans hc64)) p66
    have t101 := fI_of ((d96 _ (by decide)).trans ((d87 _ (by decide)).trans hc64)) p70
    have t102 := fI_of ((d96 _ (by decide)).trans ((d87 _ (by decide)).trans hc64)) p73
    have t103 := fI_of ((d96 _ (by decide)).trans ((d87 _ (by decide)).trans hc64)) p76
    have t104 := fI_of ((d96 _ (by decide)).trans ((d87 _ (by decide)).trans hc64)) p79
    have t105 := fI_keep (k := 19) hO46 hO62 hv62 rfl (by decide)
    have t106 := fI_keep (k := 19) hO62 hO90 hv90 rfl (by decide)
    have t107 := fI_keep (k := 19) hO90 hO98 hv98 rfl (by decide)
    exact ur_ret0 rfl (hQ _ _ rfl hO98 (hu46.tr (hu62.tr (hu90.tr hu98))) (by omega) (by omega) (TX.keep pre3 hO0 (kp.tr (n := 1430) (kp.tr (n := 1430) (kp.tr (n := 1430) (kp.tr (n := 1430) kp.rf (kp_un hO0 hv46 (by decide) (by decide) 1430) (Nat.le_refl _)) hp58 (by unfold iL; omega)) (kp_un hO62 hv90 (by decide) (by decide) 1430) (Nat.le_refl _)) (kp_un hO90 hv98 (by decide) (by decide) 1430) (Nat.le_refl _)) (kq_of hc24 ((d96 _ (by decide)).trans ((d87 _ (by decide)).trans (hv62.ka (n := 732) hc44 ((List.length_set ..).trans hn26) rfl (by decide) (wid_f (by decide)) (by decide)))) hc28 ((d96 _ (by decide)).trans hc88) (fun i hi => by first | (rw [List.getElem?_set_ne (by omega), List.getElem?_set_ne (by omega)]; done) | (rw [List.getElem?_set_ne (by omega)]; done)) (fun i hi => by first | (rw [List.getElem?_set_ne (by omega), List.getElem?_set_ne (by omega)]; done) | (rw [List.getElem?_set_ne (by omega)]; done))) (km_of hc20 hc97 (fun i hi => by first | (rw [List.getElem?_set_ne (by omega), List.getElem?_set_ne (by omega)]; done) | (rw [List.getElem?_set_ne (by omega)]; done)))) (fun q => by first | exact absurd q (by omega) | exact TL.of (line_ends (n := (lm h0).toNat) (L0 := (fI h0 23).toNat) pre4.1 pre4.2 (kp.tr (n := (1430 + (fI h0 23).toNat)) (kp.tr (n := (1430 + (fI h0 23).toNat)) (kp.tr (n := (1430 + (fI h0 23).toNat)) (kp.tr (n := (1430 + (fI h0 23).toNat)) kp.rf (kp_un hO0 hv46 (by decide) (by decide) (1430 + (fI h0 23).toNat)) (Nat.le_refl _)) hp58 (by unfold iL; omega)) (kp_un hO62 hv90 (by decide) (by decide) (1430 + (fI h0 23).toNat)) (Nat.le_refl _)) (kp_un hO90 hv98 (by decide) (by decide) (1430 + (fI h0 23).toNat)) (Nat.le_refl _)) (kq_of hc24 ((d96 _ (by decide)).trans ((d87 _ (by decide)).trans (hv62.ka (n := 732) hc44 ((List.length_set ..).trans hn26) rfl (by decide) (wid_f (by decide)) (by decide)))) hc28 ((d96 _ (by decide)).trans hc88) (fun i hi => by first | (rw [List.getElem?_set_ne (by omega), List.getElem?_set_ne (by omega)]; done) | (rw [List.getElem?_set_ne (by omega)]; done)) (fun i hi => by first | (rw [List.getElem?_set_ne (by omega), List.getElem?_set_ne (by omega)]; done) | (rw [List.getElem?_set_ne (by omega)]; done))) (gd_set ((d96 _ (by decide)).trans ((d87 _ (by decide)).trans (hv62.ka (n := 732) hc44 ((List.length_set ..).trans hn26) rfl (by decide) (wid_f (by decide)) (by decide)))) (by omega) (by first | omega | (rw [List.length_set]; omega))) (gd_set ((d96 _ (by decide)).trans hc88) (by omega) (by first | omega | (rw [List.length_set]; omega))) (by unfold iN; omega) (by unfold iN; omega) (by unfold iN; omega) (fun q => (q (by unfold iN; omega)).elim) (bk_cast ((hp59 (by omega)).keep (kp.tr (n := (iL h62)) (kp.tr (n := (iL h62)) kp.rf (kp_un hO62 hv90 (by decide) (by decide) (iL h62)) (Nat.le_refl _)) (kp_un hO90 hv98 (by decide) (by decide) (iL h62)) (Nat.le_refl _))) (by unfold iL; (try unfold iN); omega) (by unfold iL iN; omega))) (by omega) (by omega)) (by omega) ⟨(kp.tr (n := 1430) (kp.tr (n := 1430) (kp.tr (n := 1430) (kp.tr (n := 1430) kp.rf (kp_un hO0 hv46 (by decide) (by decide) 1430) (Nat.le_refl _)) hp58 (by unfold iL; omega)) (kp_un hO62 hv90 (by decide) (by decide) 1430) (Nat.le_refl _)) (kp_un hO90 hv98 (by decide) (by decide) 1430) (Nat.le_refl _)), (kq_of hc24 ((d96 _ (by decide)).trans ((d87 _ (by decide)).trans (hv62.ka (n := 732) hc44 ((List.length_set ..).trans hn26) rfl (by decide) (wid_f (by decide)) (by decide)))) hc28 ((d96 _ (by decide)).trans hc88) (fun i hi => by first | (rw [List.getElem?_set_ne (by omega), List.getElem?_set_ne (by omega)]; done) | (rw [List.getElem?_set_ne (by omega)]; done)) (fun i hi => by first | (rw [List.getElem?_set_ne (by omega), List.getElem?_set_ne (by omega)]; done) | (rw [List.getElem?_set_ne (by omega)]; done))), (km_of hc20 hc97 (fun i hi => by first | (rw [List.getElem?_set_ne (by omega), List.getElem?_set_ne (by omega)]; done) | (rw [List.getElem?_set_ne (by omega)]; done)))⟩ (RLl.no pre7 hp60 (by omega) (by omega) (tkR_kp (kp.tr (n := (iL h0)) kp.rf (kp_un hO0 hv46 (by decide) (by decide) (iL h0)) (Nat.le_refl _)) (by omega)) (tkR_kp (kp.tr (n := (iL h62)) (kp.tr (n := (iL h62)) kp.rf (kp_un hO62 hv90 (by decide) (by decide) (iL h62)) (Nat.le_refl _)) (kp_un hO90 hv98 (by decide) (by decide) (iL h62)) (Nat.le_refl _)) (by omega)) (fun q => by omega) (by omega) (tkR_len hO0 (by omega)) (fun q => tkR_len hO98 (by omega)) (fun _ => (kq_of hc24 ((d96 _ (by decide)).trans ((d87 _ (by decide)).trans (hv62.ka (n := 732) hc44 ((List.length_set ..).trans hn26) rfl (by decide) (wid_f (by decide)) (by decide)))) hc28 ((d96 _ (by decide)).trans hc88) (fun i hi => by first | (rw [List.getElem?_set_ne (by omega), List.getElem?_set_ne (by omega)]; done) | (rw [List.getElem?_set_ne (by omega)]; done)) (fun i hi => by first | (rw [List.getElem?_set_ne (by omega), List.getElem?_set_ne (by omega)]; done) | (rw [List.getElem?_set_ne (by omega)]; done)))) (gd_set ((d96 _ (by decide)).trans ((d87 _ (by decide)).trans (hv62.ka (n := 732) hc44 ((List.length_set ..).trans hn26) rfl (by decide) (wid_f (by decide)) (by decide)))) (by omega) (by first | omega | (rw [List.length_set]; omega))) (gd_set ((d96 _ (by decide)).trans hc88) (by omega) (by first | omega | (rw [List.length_set]; omega))) (by omega) (by omega) (by omega)))
  · have t108 := le_no c82
    refine ur_ldA rfl rfl ?_
    have t109 := fI_keep (k := 19) hO46 hO62 hv62 rfl (by decide)
    refine ur_inl rfl (rcv_of hc64) (Nat.le_of_ble_eq_true rfl) (Nat.le_of_ble_eq_true rfl) (st_X12_look hO62 ((pre6.un hO0 hO46 hv46 (by decide) (by decide)).un hO46 hO62 hv62 (by decide) (by decide)) (by omega) (fun w110 hr111 => ?_))
    obtain ⟨x112, rfl, t113⟩ := hr111
    show uRun _ (uCall Mt _) _ 38 (_, [(.inl x112)], _, _, _)
    refine ur_push rfl ?_
    refine ur_if2 rfl (fun c114 => ?_) (fun c114 => ?_)
    · have t115 := ne_to c114
      refine ur_ldA rfl rfl ?_
      refine ur_get rfl hc64 (mf_28 hO62 hc64) ?_
      refine ur_ldI rfl rfl ?_
      refine ur_ldA rfl rfl ?_
      refine ur_get rfl hc64 p79 ?_
      refine ur_unV rfl (fun x116 e117 => ?_)
      have t118 : x116.toInt = f78.toInt := by rw [← e117]; exact nar_s (by omega)
      have t121 : (vp_nar .short x116).toInt = x116.toInt := nar_vs (by omega)
      refine ur_astV (W := [87]) (m := 732) rfl hO62 (hv62.ka (n := 732) ((d43 _ (by decide)).trans hc28) hn30 rfl (by decide) (wid_f (by decide)) (by decide)) (by decide) hn30 (by omega) (by show 0 ≤ (vp_nar .short x116).toInt ∧ (vp_nar .short x116).toInt ≤ 130; rw [nar_vs (by omega)]; omega) (Or.inr (Or.inr (wid_fix (by decide) (by decide)))) (fun h122 hO122 hv122 d119 hc120 => ?_)
      have hu122 : un [83, 84, 85, 86, 87] h62 h122 := hv122.mono (by decide)
      refine ur_ldA rfl rfl ?_
      refine ur_get rfl ((d119 _ (by decide)).trans hc64) (mf_26 hO122 ((d119 _ (by decide)).trans hc64)) ?_
      refine ur_push rfl ?_
      refine ur_dup2 rfl rfl rfl ?_
      refine ur_aldV rfl ((d119 _ (by decide)).trans (hv62.ka (n := 12) ((d43 _ (by decide)).trans hc20) hn22 rfl (by decide) (wid_f (by decide)) (by decide))) hn22 (by omega) (fun x123 hx124 => ?_)
      obtain rfl : x32 = x123 := Option.some.inj (hx33.symm.trans hx124)
      refine ur_push rfl ?_
      refine ur_binV rfl (fun x125 e126 => ?_)
      have t127 := ti_add e126 (by omega) (by omega)
      refine ur_astV (W := [85]) (m := 12) rfl hO122 ((d119 _ (by decide)).trans (hv62.ka (n := 12) ((d43 _ (by decide)).trans hc20) hn22 rfl (by decide) (wid_f (by decide)) (by decide))) (by decide) hn22 (by omega) (by show 0 ≤ x125.toInt ∧ x125.toInt ≤ 61; omega) (Or.inr (Or.inr (wid_fix (by decide) (by decide)))) (fun h130 hO130 hv130 d128 hc129 => ?_)
      have hu130 : un [83, 84, 85, 86, 87] h122 h130 := hv130.mono (by decide)
      have t131 := lm_set hc129 (by omega) (by omega)
      have hc132 := ((d128 _ (by decide)).trans ((d119 _ (by decide)).trans hc64))
      have t133 := fI_of hc132 p66
      have t134 := fI_of hc132 p70
      have t135 := fI_of hc132 p73
      have t136 := fI_of hc132 p76
      have t137 := fI_of hc132 p79
      have t138 := fI_keep (k := 19) hO62 hO122 hv122 rfl (by decide)
      have t139 := fI_keep (k := 19) hO122 hO130 hv130 rfl (by decide)
      exact ur_ret0 rfl (hQ _ _ rfl hO130 (hu46.tr (hu62.tr (hu122.tr hu130))) (by omega) (by omega) (TX.keep pre3 hO0 (kp.tr (n := 1430) (kp.tr (n := 1430) (kp.tr (n := 1430) (kp.tr (n := 1430) kp.rf (kp_un hO0 hv46 (by decide) (by decide) 1430) (Nat.le_refl _)) hp58 (by unfold iL; omega)) (kp_un hO62 hv122 (by decide) (by decide) 1430) (Nat.le_refl _)) (kp_un hO122 hv130 (by decide) (by decide) 1430) (Nat.le_refl _)) (kq_of hc24 ((d128 _ (by decide)).trans ((d119 _ (by decide)).trans (hv62.ka (n := 732) hc44 ((List.length_set ..).trans hn26) rfl (by decide) (wid_f (by decide)) (by decide)))) hc28 ((d128 _ (by decide)).trans hc120) (fun i hi => by first | (rw [List.getElem?_set_ne (by omega), List.getElem?_set_ne (by omega)]; done) | (rw [List.getElem?_set_ne (by omega)]; done)) (fun i hi => by first | (rw [List.getElem?_set_ne (by omega), List.getElem?_set_ne (by omega)]; done) | (rw [List.getElem?_set_ne (by omega)]; done))) (km_of hc20 hc129 (fun i hi => by first | (rw [List.getElem?_set_ne (by omega), List.getElem?_set_ne (by omega)]; done) | (rw [List.getElem?_set_ne (by omega)]; done)))) (fun q => by first | exact absurd q (by omega) | exact TL.of (line_ends (n := (lm h0).toNat) (L0 := (fI h0 23).toNat) pre4.1 pre4.2 (kp.tr (n := (1430 + (fI h0 23).toNat)) (kp.tr (n := (1430 + (fI h0 23).toNat)) (kp.tr (n := (1430 + (fI h0 23).toNat)) (kp.tr (n := (1430 + (fI h0 23).toNat)) kp.rf (kp_un hO0 hv46 (by decide) (by decide) (1430 + (fI h0 23).toNat)) (Nat.le_refl _)) hp58 (by unfold iL; omega)) (kp_un hO62 hv122 (by decide) (by decide) (1430 + (fI h0 23).toNat)) (Nat.le_refl _)) (kp_un hO122 hv130 (by decide) (by decide) (1430 + (fI h0 23).toNat)) (Nat.le_refl _)) (kq_of hc24 ((d128 _ (by decide)).trans ((d119 _ (by decide)).trans (hv62.ka (n := 732) hc44 ((List.length_set ..).trans hn26) rfl (by decide) (wid_f (by decide)) (by decide)))) hc28 ((d128 _ (by decide)).trans hc120) (fun i hi => by first | (rw [List.getElem?_set_ne (by omega), List.getElem?_set_ne (by omega)]; done) | (rw [List.getElem?_set_ne (by omega)]; done)) (fun i hi => by first | (rw [List.getElem?_set_ne (by omega), List.getElem?_set_ne (by omega)]; done) | (rw [List.getElem?_set_ne (by omega)]; done))) (gd_set ((d128 _ (by decide)).trans ((d119 _ (by decide)).trans (hv62.ka (n := 732) hc44 ((List.length_set ..).trans hn26) rfl (by decide) (wid_f (by decide)) (by decide)))) (by omega) (by first | omega | (rw [List.length_set]; omega))) (gd_set ((d128 _ (by decide)).trans hc120) (by omega) (by first | omega | (rw [List.length_set]; omega))) (by unfold iN; omega) (by unfold iN; omega) (by unfold iN; omega) (fun q => (q (by unfold iN; omega)).elim) (bk_cast ((hp59 (by omega)).keep (kp.tr (n := (iL h62)) (kp.tr (n := (iL h62)) kp.rf (kp_un hO62 hv122 (by decide) (by decide) (iL h62)) (Nat.le_refl _)) (kp_un hO122 hv130 (by decide) (by decide) (iL h62)) (Nat.le_refl _))) (by unfold iL; (try unfold iN); omega) (by unfold iL iN; omega))) (by omega) (by omega)) (by omega) ⟨(kp.tr (n := 1430) (kp.tr (n := 1430) (kp.tr (n := 1430) (kp.tr (n := 1430) kp.rf (kp_un hO0 hv46 (by decide) (by decide) 1430) (Nat.le_refl _)) hp58 (by unfold iL; omega)) (kp_un hO62 hv122 (by decide) (by decide) 1430) (Nat.le_refl _)) (kp_un hO122 hv130 (by decide) (by decide) 1430) (Nat.le_refl _)), (kq_of hc24 ((d128 _ (by decide)).trans ((d119 _ (by decide)).trans (hv62.ka (n := 732) hc44 ((List.length_set ..).trans hn26) rfl (by decide) (wid_f (by decide)) (by decide)))) hc28 ((d128 _ (by decide)).trans hc120) (fun i hi => by first | (rw [List.getElem?_set_ne (by omega), List.getElem?_set_ne (by omega)]; done) | (rw [List.getElem?_set_ne (by omega)]; done)) (fun i hi => by first | (rw [List.getElem?_set_ne (by omega), List.getElem?_set_ne (by omega)]; done) | (rw [List.getElem?_set_ne (by omega)]; done))), (km_of hc20 hc129 (fun i hi => by first | (rw [List.getElem?_set_ne (by omega), List.getElem?_set_ne (by omega)]; done) | (rw [List.getElem?_set_ne (by omega)]; done)))⟩ (RLl.no pre7 hp60 (by omega) (by omega) (tkR_kp (kp.tr (n := (iL h0)) kp.rf (kp_un hO0 hv46 (by decide) (by decide) (iL h0)) (Nat.le_refl _)) (by omega)) (tkR_kp (kp.tr (n := (iL h62)) (kp.tr (n := (iL h62)) kp.rf (kp_un hO62 hv122 (by decide) (by decide) (iL h62)) (Nat.le_refl _)) (kp_un hO122 hv130 (by decide) (by decide) (iL h62)) (Nat.le_refl _)) (by omega)) (fun q => sg_ne t113.1 (by omega) (by decide)) (by omega) (tkR_len hO0 (by omega)) (fun q => tkR_len hO130 (by omega)) (fun _ => (kq_of hc24 ((d128 _ (by decide)).trans ((d119 _ (by decide)).trans (hv62.ka (n := 732) hc44 ((List.length_set ..).trans hn26) rfl (by decide) (wid_f (by decide)) (by decide)))) hc28 ((d128 _ (by decide)).trans hc120) (fun i hi => by first | (rw [List.getElem?_set_ne (by omega), List.getElem?_set_ne (by omega)]; done) | (rw [List.getElem?_set_ne (by omega)]; done)) (fun i hi => by first | (rw [List.getElem?_set_ne (by omega), List.getElem?_set_ne (by omega)]; done) | (rw [List.getElem?_set_ne (by omega)]; done)))) (gd_set ((d128 _ (by decide)).trans ((d119 _ (by decide)).trans (hv62.ka (n := 732) hc44 ((List.length_set ..).trans hn26) rfl (by decide) (wid_f (by decide)) (by decide)))) (by omega) (by first | omega | (rw [List.length_set]; omega))) (gd_set ((d128 _ (by decide)).trans hc120) (by omega) (by first | omega | (rw [List.length_set]; omega))) (by omega) (by omega) (by omega)))
    · have t140 := ne_no c114
      refine ur_ldA rfl rfl ?_
      refine ur_dup rfl rfl ?_
      refine ur_get rfl hc64 p70 ?_
      have t141 : 0 ≤ f69.toInt ∧ f69.toInt ≤ 120 := by omega
      refine ur_push rfl ?_
      refine ur_binV rfl (fun x142 e143 => ?_)
      have z144 := any_r f69
      have t145 := ti_add e143 (by omega) (by omega)
      refine ur_putM (W := []) rfl hO62 hc64 (by decide) rfl (ms_20 (hO62.msh hc64)) (Or.inl rfl) (fun h147 hO147 hv147 d146 hc148 => ?_)
      have hu147 : un [83, 84, 85, 86, 87] h62 h147 := hv147.mono (by decide)
      have t149 := fI_of hc148 (gs_ne (k := 20) (v := .inl x142) p66 (by decide))
      have t150 := fI_of hc148 (gs_eq (v := .inl x142) p70)
      have t151 := fI_of hc148 (gs_ne (k := 20) (v := .inl x142) p73 (by decide))
      have t152 := fI_of hc148 (gs_ne (k := 20) (v := .inl x142) p76 (by decide))
      have t153 := fI_of hc148 (gs_ne (k := 20) (v := .inl x142) p79 (by decide))
      refine ur_ldA rfl rfl ?_
      refine ur_get rfl hc148 (mf_27 hO147 hc148) ?_
      refine ur_ldI rfl rfl ?_
      refine ur_ldA rfl rfl ?_
      refine ur_get rfl hc148 (gs_ne (k := 20) (v := .inl x142) p79 (by decide)) ?_
      refine ur_unV rfl (fun x154 e155 => ?_)
      have t156 : x154.toInt = f78.toInt := by rw [← e155]; exact nar_s (by omega)
      have t159 : (vp_nar .short x154).toInt = x154.toInt := nar_vs (by omega)
      refine ur_astV (W := [86]) (m := 732) rfl hO147 ((d146 _ (by decide)).trans (hv62.ka (n := 732) hc44 ((List.length_set ..).trans hn26) rfl (by decide) (wid_f (by decide)) (by decide))) (by decide) ((List.length_set ..).trans hn26) (by omega) (by show 0 ≤ (vp_nar .short x154).toInt ∧ (vp_nar .short x154).toInt ≤ 130; rw [nar_vs (by omega)]; omega) (Or.inr (Or.inr (wid_fix (by decide) (by decide)))) (fun h160 hO160 hv160 d157 hc158 => ?_)
      have hu160 : un [83, 84, 85, 86, 87] h147 h160 := hv160.mono (by decide)
      refine ur_ldA rfl rfl ?_
      have t161 := fI_of ((d157 _ (by decide)).trans hc148) (gs_ne (k := 20) (v := .inl x142) p66 (by decide))
      have t162 := fI_of ((d157 _ (by decide)).trans hc148) (gs_eq (v := .inl x142) p70)
      have t163 := fI_of ((d157 _ (by decide)).trans hc148) (gs_ne (k := 20) (v := .inl x142) p73 (by decide))
      have t164 := fI_of ((d157 _ (by decide)).trans hc148) (gs_ne (k := 20) (v := .inl x142) p76 (by decide))
      have t165 := fI_of ((d157 _ (by decide)).trans hc148) (gs_ne (k := 20) (v := .inl x142) p79 (by decide))
      have t166 := fI_keep (k := 19) hO147 hO160 hv160 rfl (by decide)
      refine ur_inl rfl (rcv_of ((d157 _ (by decide)).trans hc148)) (Nat.le_of_ble_eq_true rfl) (Nat.le_of_ble_eq_true rfl) (st_X12_rE hO160 ((((pre6.un hO0 hO46 hv46 (by decide) (by decide)).un hO46 hO62 hv62 (by decide) (by decide)).un hO62 hO147 hv147 (by decide) (by decide)).un hO147 hO160 hv160 (by decide) (by decide)) (by omega) (by omega) (fun w167 h176 hr168 hO176 hv176 hp169 hp170 hp171 hp172 hp173 hp174 hp175 => ?_))
      have hu176 : un [83, 84, 85, 86, 87] h160 h176 := hv176.mono (by decide)
      subst hr168
      show uRun _ (uCall Mt _) _ 68 (_, [], _, _, _)
      obtain ⟨fs177, hc178⟩ := hO176.mod
      obtain ⟨f179, p180, t181⟩ := mf_19 hO176 hc178
      have t182 := fI_of hc178 p180
      obtain ⟨f183, p184⟩ := mf_20 hO176 hc178
      have t185 := fI_of hc178 p184
      obtain ⟨f186, p187⟩ := mf_21 hO176 hc178
      have t188 := fI_of hc178 p187
      obtain ⟨f189, p190⟩ := mf_22 hO176 hc178
      have t191 := fI_of hc178 p190
      obtain ⟨f192, p193, t194⟩ := mf_23 hO176 hc178
      have t195 := fI_of hc178 p193
      refine ur_ldA rfl rfl ?_
      refine ur_get rfl hc178 (mf_28 hO176 hc178) ?_
      refine ur_ldI rfl rfl ?_
      refine ur_ldA rfl rfl ?_
      refine ur_get rfl hc178 p193 ?_
      refine ur_unV rfl (fun x196 e197 => ?_)
      have t198 : x196.toInt = f192.toInt := by rw [← e197]; exact nar_s (by omega)
      have hc199 := (hv176.ka (n := 732) ((d157 _ (by decide)).trans ((d146 _ (by decide)).trans (hv62.ka (n := 732) ((d43 _ (by decide)).trans hc28) hn30 rfl (by decide) (wid_f (by decide)) (by decide)))) hn30 rfl (by decide) (wid_f (by decide)) (by decide))
      have t202 : (vp_nar .short x196).toInt = x196.toInt := nar_vs (by omega)
      refine ur_astV (W := [87]) (m := 732) rfl hO176 hc199 (by decide) hn30 (by omega) (by show 0 ≤ (vp_nar .short x196).toInt ∧ (vp_nar .short x196).toInt ≤ 130; rw [nar_vs (by omega)]; omega) (Or.inr (Or.inr (wid_fix (by decide) (by decide)))) (fun h203 hO203 hv203 d200 hc201 => ?_)
      have hu203 : un [83, 84, 85, 86, 87] h176 h203 := hv203.mono (by decide)
      refine ur_ldA rfl rfl ?_
      refine ur_get rfl ((d200 _ (by decide)).trans hc178) (mf_26 hO203 ((d200 _ (by decide)).trans hc178)) ?_
      refine ur_push rfl ?_
      refine ur_dup2 rfl rfl rfl ?_
      have hc204 := ((d200 _ (by decide)).trans (hv176.ka (n := 12) ((d157 _ (by decide)).trans ((d146 _ (by decide)).trans (hv62.ka (n := 12) ((d43 _ (by decide)).trans hc20) hn22 rfl (by decide) (wid_f (by decide)) (by decide)))) hn22 rfl (by decide) (wid_f (by decide)) (by decide)))
      refine ur_aldV rfl hc204 hn22 (by omega) (fun x205 hx206 => ?_)
      obtain rfl : x32 = x205 := Option.some.inj (hx33.symm.trans hx206)
      refine ur_push rfl ?_
      refine ur_binV rfl (fun x207 e208 => ?_)
      have t209 := ti_add e208 (by omega) (by omega)
      refine ur_astV (W := [85]) (m := 12) rfl hO203 hc204 (by decide) hn22 (by omega) (by show 0 ≤ x207.toInt ∧ x207.toInt ≤ 61; omega) (Or.inr (Or.inr (wid_fix (by decide) (by decide)))) (fun h212 hO212 hv212 d210 hc211 => ?_)
      have hu212 : un [83, 84, 85, 86, 87] h203 h212 := hv212.mono (by decide)
      have t213 := lm_set hc211 (by omega) (by omega)
      have hc214 := ((d210 _ (by decide)).trans ((d200 _ (by decide)).trans hc178))
      have t215 := fI_of hc214 p180
      have t216 := fI_of hc214 p184
      have t217 := fI_of hc214 p187
      have t218 := fI_of hc214 p190
      have t219 := fI_of hc214 p193
      have t220 := fI_keep (k := 19) hO160 hO176 hv176 rfl (by decide)
      have t221 := fI_keep (k := 19) hO176 hO203 hv203 rfl (by decide)
      have t222 := fI_keep (k := 19) hO203 hO212 hv212 rfl (by decide)
      exact ur_ret0 rfl (hQ _ _ rfl hO212 (hu46.tr (hu62.tr (hu147.tr (hu160.tr (hu176.tr (hu203.tr hu212)))))) (by omega) (by omega) (TX.keep pre3 hO0 (kp.tr (n := 1430) (kp.tr (n := 1430) (kp.tr (n := 1430) (kp.tr (n := 1430) (kp.tr (n := 1430) (kp.tr (n := 1430) (kp.tr (n := 1430) kp.rf (kp_un hO0 hv46 (by decide) (by decide) 1430) (Nat.le_refl _)) hp58 (by unfold iL; omega)) (kp_un hO62 hv147 (by decide) (by decide) 1430) (Nat.le_refl _)) (kp_un hO147 hv160 (by decide) (by decide) 1430) (Nat.le_refl _)) hp172 (by unfold iL; omega)) (kp_un hO176 hv203 (by decide) (by decide) 1430) (Nat.le_refl _)) (kp_un hO203 hv212 (by decide) (by decide) 1430) (Nat.le_refl _)) (kq_of hc24 ((d210 _ (by decide)).trans ((d200 _ (by decide)).trans (hv176.ka (n := 732) hc158 ((List.length_set ..).trans ((List.length_set ..).trans hn26)) rfl (by decide) (wid_f (by decide)) (by decide)))) hc28 ((d210 _ (by decide)).trans hc201) (fun i hi => by first | (rw [List.getElem?_set_ne (by omega), List.getElem?_set_ne (by omega)]; done) | (rw [List.getElem?_set_ne (by omega)]; done)) (fun i hi => by first | (rw [List.getElem?_set_ne (by omega), List.getElem?_set_ne (by omega)]; done) | (rw [List.getElem?_set_ne (by omega)]; done))) (km_of hc20 hc211 (fun i hi => by first | (rw [List.getElem?_set_ne (by omega), List.getElem?_set_ne (by omega)]; done) | (rw [List.getElem?_set_ne (by omega)]; done)))) (fun q => by first | exact absurd q (by omega) | exact TL.of (line_ends (n := (lm h0).toNat) (L0 := (fI h0 23).toNat) pre4.1 pre4.2 (kp.tr (n := (1430 + (fI h0 23).toNat)) (kp.tr (n := (1430 + (fI h0 23).toNat)) (kp.tr (n := (1430 + (fI h0 23).toNat)) (kp.tr (n := (1430 + (fI h0 23).toNat)) (kp.tr (n := (1430 + (fI h0 23).toNat)) (kp.tr (n := (1430 + (fI h0 23).toNat)) (kp.tr (n := (1430 + (fI h0 23).toNat)) kp.rf (kp_un hO0 hv46 (by decide) (by decide) (1430 + (fI h0 23).toNat)) (Nat.le_refl _)) hp58 (by unfold iL; omega)) (kp_un hO62 hv147 (by decide) (by decide) (1430 + (fI h0 23).toNat)) (Nat.le_refl _)) (kp_un hO147 hv160 (by decide) (by decide) (1430 + (fI h0 23).toNat)) (Nat.le_refl _)) hp172 (by unfold iL; omega)) (kp_un hO176 hv203 (by decide) (by decide) (1430 + (fI h0 23).toNat)) (Nat.le_refl _)) (kp_un hO203 hv212 (by decide) (by decide) (1430 + (fI h0 23).toNat)) (Nat.le_refl _)) (kq_of hc24 ((d210 _ (by decide)).trans ((d200 _ (by decide)).trans (hv176.ka (n := 732) hc158 ((List.length_set ..).trans ((List.length_set ..).trans hn26)) rfl (by decide) (wid_f (by decide)) (by decide)))) hc28 ((d210 _ (by decide)).trans hc201) (fun i hi => by first | (rw [List.getElem?_set_ne (by omega), List.getElem?_set_ne (by omega)]; done) | (rw [List.getElem?_set_ne (by omega)]; done)) (fun i hi => by first | (rw [List.getElem?_set_ne (by omega), List.getElem?_set_ne (by omega)]; done) | (rw [List.getElem?_set_ne (by omega)]; done))) (gd_set ((d210 _ (by decide)).trans ((d200 _ (by decide)).trans (hv176.ka (n := 732) hc158 ((List.length_set ..).trans ((List.length_set ..).trans hn26)) rfl (by decide) (wid_f (by decide)) (by decide)))) (by omega) (by first | omega | (rw [List.length_set]; omega))) (gd_set ((d210 _ (by decide)).trans hc201) (by omega) (by first | omega | (rw [List.length_set]; omega))) (by unfold iN; omega) (by unfold iN; omega) (by unfold iN; omega) (fun _ => (bk_cast ((hp59 (by omega)).keep (kp.tr (n := (iL h62)) (kp.tr (n := (iL h62)) (kp.tr (n := (iL h62)) (kp.tr (n := (iL h62)) (kp.tr (n := (iL h62)) kp.rf (kp_un hO62 hv147 (by decide) (by decide) (iL h62)) (Nat.le_refl _)) (kp_un hO147 hv160 (by decide) (by decide) (iL h62)) (Nat.le_refl _)) hp172 (by unfold iL; omega)) (kp_un hO176 hv203 (by decide) (by decide) (iL h62)) (Nat.le_refl _)) (kp_un hO203 hv212 (by decide) (by decide) (iL h62)) (Nat.le_refl _))) (by unfold iL; (try unfold iN); omega) (by unfold iL iN; omega))) (bk_cast ((hp173 (by omega)).keep (kp.tr (n := (iL h176)) (kp.tr (n := (iL h176)) kp.rf (kp_un hO176 hv203 (by decide) (by decide) (iL h176)) (Nat.le_refl _)) (kp_un hO203 hv212 (by decide) (by decide) (iL h176)) (Nat.le_refl _))) (by unfold iL; (try unfold iN); omega) (by unfold iL iN; omega))) (by omega) (by omega)) (by omega) ⟨(kp.tr (n := 1430) (kp.tr (n := 1430) (kp.tr (n := 1430) (kp.tr (n := 1430) (kp.tr (n := 1430) (kp.tr (n := 1430) (kp.tr (n := 1430) kp.rf (kp_un hO0 hv46 (by decide) (by decide) 1430) (Nat.le_refl _)) hp58 (by unfold iL; omega)) (kp_un hO62 hv147 (by decide) (by decide) 1430) (Nat.le_refl _)) (kp_un hO147 hv160 (by decide) (by decide) 1430) (Nat.le_refl _)) hp172 (by unfold iL; omega)) (kp_un hO176 hv203 (by decide) (by decide) 1430) (Nat.le_refl _)) (kp_un hO203 hv212 (by decide) (by decide) 1430) (Nat.le_refl _)), (kq_of hc24 ((d210 _ (by decide)).trans ((d200 _ (by decide)).trans (hv176.ka (n := 732) hc158 ((List.length_set ..).trans ((List.length_set ..).trans hn26)) rfl (by decide) (wid_f (by decide)) (by decide)))) hc28 ((d210 _ (by decide)).trans hc201) (fun i hi => by first | (rw [List.getElem?_set_ne (by omega), List.getElem?_set_ne (by omega)]; done) | (rw [List.getElem?_set_ne (by omega)]; done)) (fun i hi => by first | (rw [List.getElem?_set_ne (by omega), List.getElem?_set_ne (by omega)]; done) | (rw [List.getElem?_set_ne (by omega)]; done))), (km_of hc20 hc211 (fun i hi => by first | (rw [List.getElem?_set_ne (by omega), List.getElem?_set_ne (by omega)]; done) | (rw [List.getElem?_set_ne (by omega)]; done)))⟩ (RLl.tb pre7 hp60 (by omega) (by omega) (tkR_kp (kp.tr (n := (iL h0)) kp.rf (kp_un hO0 hv46 (by decide) (by decide) (iL h0)) (Nat.le_refl _)) (by omega)) (by omega) (tS.cl pre6 t113.1 (by omega) (by decide)) hp174 (by omega) (by omega) (tkR_kp (kp.tr (n := (iL h62)) (kp.tr (n := (iL h62)) kp.rf (kp_un hO62 hv147 (by decide) (by decide) (iL h62)) (Nat.le_refl _)) (kp_un hO147 hv160 (by decide) (by decide) (iL h62)) (Nat.le_refl _)) (by omega)) (tkR_kp (kp.tr (n := (iL h176)) (kp.tr (n := (iL h176)) kp.rf (kp_un hO176 hv203 (by decide) (by decide) (iL h176)) (Nat.le_refl _)) (kp_un hO203 hv212 (by decide) (by decide) (iL h176)) (Nat.le_refl _)) (by omega)) (by omega) (tkR_len hO0 (by omega)) (tkR_len hO62 (by omega)) (fun q => tkR_len hO212 (by omega)) (fun _ => (kq_of hc24 ((d210 _ (by decide)).trans ((d200 _ (by decide)).trans (hv176.ka (n := 732) hc158 ((List.length_set ..).trans ((List.length_set ..).trans hn26)) rfl (by decide) (wid_f (by decide)) (by decide)))) hc28 ((d210 _ (by decide)).trans hc201) (fun i hi => by first | (rw [List.getElem?_set_ne (by omega), List.getElem?_set_ne (by omega)]; done) | (rw [List.getElem?_set_ne (by omega)]; done)) (fun i hi => by first | (rw [List.getElem?_set_ne (by omega), List.getElem?_set_ne (by omega)]; done) | (rw [List.getElem?_set_ne (by omega)]; done)))) (gd_set ((d210 _ (by decide)).trans ((d200 _ (by decide)).trans (hv176.ka (n := 732) hc158 ((List.length_set ..).trans ((List.length_set ..).trans hn26)) rfl (by decide) (wid_f (by decide)) (by decide)))) (by omega) (by first | omega | (rw [List.length_set]; omega))) (gd_set ((d210 _ (by decide)).trans hc201) (by omega) (by first | omega | (rw [List.length_set]; omega))) (by omega) (by omega) (by omega)))

set_option maxRecDepth 20000 in
set_option maxHeartbeats 4000000 in
theorem st_X12_text {d kc ks : Nat} {h0 : aH} {Q : Option aV → aH → Prop} (hO0 : OK h0) (hX0 : SX h0) (a1 : Int32) (pre0 : BR h0) (hQ : ∀ r h', (∃ x : Int32, r = some (.inl x) ∧ ((((0 ≤ a1.toInt ∧ a1.toInt ≤ 1 ∨ 10 ≤ a1.toInt ∧ a1.toInt ≤ 18) → fI h' 19 = 0) ∧ (¬ (0 ≤ a1.toInt ∧ a1.toInt ≤ 1 ∨ 10 ≤ a1.toInt ∧ a1.toInt ≤ 18) → fI h' 19 = fI h0 19 ∧ x.toInt = -1)) ∧ ((0 ≤ a1.toInt ∧ a1.toInt ≤ 1 ∨ 10 ≤ a1.toInt ∧ a1.toInt ≤ 18) → RTt (tR h0) h' (plN a1.toInt) x.toInt) ∧ ∀ (q : Nat) (ls : List (List (Int × Int) × List (Int × Int))), q < 11 → (q ≠ plN a1.toInt ∨ x.toInt ≠ 1) → RLn h0 q ls → RLn h' q ls)) → OK h' → un [83, 84, 85, 86, 87, 7919] h0 h' → (SX h') → Q r h') : uCall Mt (d + 47) 227 [(.inr (.inr (some 69))), (.inl a1)] h0 kc ks Q := by
  have l_m100 : ((-100) : Int32).toInt = -100 := by decide
  have l_m1 : ((-1) : Int32).toInt = -1 := by decide
  have l_0 : ((0) : Int32).toInt = 0 := by decide
  have l_1 : ((1) : Int32).toInt = 1 := by decide
  have l_10 : ((10) : Int32).toInt = 10 := by decide
  have l_11 : ((11) : Int32).toInt = 11 := by decide
  have l_18 : ((18) : Int32).toInt = 18 := by decide
  have l_59 : ((59) : Int32).toInt = 59 := by decide
  have l_61 : ((61) : Int32).toInt = 61 := by decide
  have l_130 : ((130) : Int32).toInt = 130 := by decide
  have l_671 : ((671) : Int32).toInt = 671 := by decide
  have l_1430 : ((1430) : Int32).toInt = 1430 := by decide
  refine uc_ink [some (.inr (.inr (some 69))), some (.inl a1), none, none] mt_227 (Nat.le_of_ble_eq_true rfl) rfl ?_
  obtain ⟨fs1, hc2⟩ := hO0.mod
  obtain ⟨f3, p4, t5⟩ := mf_19 hO0 hc2
  have t6 := fI_of hc2 p4
  obtain ⟨f7, p8⟩ := mf_20 hO0 hc2
  have t9 := fI_of hc2 p8
  obtain ⟨f10, p11⟩ := mf_21 hO0 hc2
  have t12 := fI_of hc2 p11
  obtain ⟨f13, p14⟩ := mf_22 hO0 hc2
  have t15 := fI_of hc2 p14
  obtain ⟨f16, p17, t18⟩ := mf_23 hO0 hc2
  have t19 := fI_of hc2 p17
  refine ur_ldI rfl rfl ?_
  refine ur_push rfl ?_
  refine ur_push rfl ?_
  refine ur_callv rfl rfl (Nat.le_of_ble_eq_true rfl) (Nat.le_of_ble_eq_true rfl) rfl (sp_in _ _ _ _ _) ?_
  refine ur_neB rfl (fun c22 => ?_) (fun c22 => ?_)
  · have t23 := wi_toL c22 l_0 l_1
    refine ur_ldA rfl rfl ?_
    refine ur_push rfl ?_
    refine ur_putM (W := []) rfl hO0 hc2 (by decide) rfl (ms_20 (hO0.msh hc2)) (Or.inl rfl) (fun h25 hO25 hv25 d24 hc26 => ?_)
    have hu25 : un [83, 84, 85, 86, 87, 7919] h0 h25 := hv25.mono (by decide)
    have t27 := fI_of hc26 (gs_ne (k := 20) (v := .inl 0) p4 (by decide))
    have t28 := fI_of hc26 (gs_eq (v := .inl 0) p8)
    have t29 := fI_of hc26 (gs_ne (k := 20) (v := .inl 0) p11 (by decide))
    have t30 := fI_of hc26 (gs_ne (k := 20) (v := .inl 0) p14 (by decide))
    have t31 := fI_of hc26 (gs_ne (k := 20) (v := .inl 0) p17 (by decide))
    refine ur_ldA rfl rfl ?_
    refine ur_push rfl ?_
    refine ur_putM (W := []) rfl hO25 hc26 (by decide) rfl (ms_21 (hO25.msh hc26)) (Or.inl rfl) (fun h33 hO33 hv33 d32 hc34 => ?_)
    have hu33 : un [83, 84, 85, 86, 87, 7919] h25 h33 := hv33.mono (by decide)
    have p35 := (gs_ne (k := 21) (v := .inl (-1)) (gs_ne (k := 20) (v := .inl 0) p4 (by decide)) (by decide))
    have p36 := (gs_ne (k := 21) (v := .inl (-1)) (gs_ne (k := 20) (v := .inl 0) p14 (by decide)) (by decide))
    have p37 := (gs_ne (k := 21) (v := .inl (-1)) (gs_ne (k := 20) (v := .inl 0) p17 (by decide)) (by decide))
    have t38 := fI_of hc34 p35
    have t39 := fI_of hc34 (gs_ne (k := 21) (v := .inl (-1)) (gs_eq (v := .inl 0) p8) (by decide))
    have t40 := fI_of hc34 (gs_eq (v := .inl (-1)) (gs_ne (k := 20) (v := .inl 0) p11 (by decide)))
    have t41 := fI_of hc34 p36
    have t42 := fI_of hc34 p37
    refine ur_ldA rfl rfl ?_
    refine ur_push rfl ?_
    refine ur_putM (W := []) rfl hO33 hc34 (by decide) rfl (ms_22 (hO33.msh hc34)) (Or.inl rfl) (fun h44 hO44 hv44 d43 hc45 => ?_)
    have hu44 : un [83, 84, 85, 86, 87, 7919] h33 h44 := hv44.mono (by decide)
    have p46 := (gs_ne (k := 22) (v := .inl 0) (gs_ne (k := 21) (v := .inl (-1)) (gs_eq (v := .inl 0) p8) (by decide)) (by decide))
    have p47 := (gs_ne (k := 22) (v := .inl 0) (gs_eq (v := .inl (-1)) (gs_ne (k := 20) (v := .inl 0) p11 (by decide))) (by decide))
    have t48 := fI_of hc45 (gs_ne (k := 22) (v := .inl 0) p35 (by decide))
    have t49 := fI_of hc45 p46
    have t50 := fI_of hc45 p47
    have t51 := fI_of hc45 (gs_eq (v := .inl 0) p36)
    have t52 := fI_of hc45 (gs_ne (k := 22) (v := .inl 0) p37 (by decide))
    refine ur_ldA rfl rfl ?_
    refine ur_push rfl ?_
    refine ur_putM (W := []) rfl hO44 hc45 (by decide) rfl (ms_23 (hO44.msh hc45) (show 0 ≤ (0 : Int32).toInt ∧ (0 : Int32).toInt ≤ 130 by omega)) (Or.inl rfl) (fun h54 hO54 hv54 d53 hc55 => ?_)
    have hu54 : un [83, 84, 85, 86, 87, 7919] h44 h54 := hv54.mono (by decide)
    have p56 := (gs_ne (k := 23) (v := .inl 0) (gs_ne (k := 22) (v := .inl 0) p35 (by decide)) (by decide))
    have t57 := fI_of hc55 p56
    have t58 := fI_of hc55 (gs_ne (k := 23) (v := .inl 0) p46 (by decide))
    have t59 := fI_of hc55 (gs_ne (k := 23) (v := .inl 0) p47 (by decide))
    have t60 := fI_of hc55 (gs_ne (k := 23) (v := .inl 0) (gs_eq (v := .inl 0) p36) (by decide))
    have t61 := fI_of hc55 (gs_eq (v := .inl 0) (gs_ne (k := 22) (v := .inl 0) p37 (by decide)))
    refine ur_ldA rfl rfl ?_
    refine ur_get rfl hc55 (mf_26 hO54 hc55) ?_
    refine ur_push rfl ?_
    refine ur_push rfl ?_
    obtain ⟨xs63, hc62, hn64, he65⟩ := hO54.int (hO54.fix 85 (by decide) rfl)
    refine ur_astV (W := [85]) (m := 12) rfl hO54 hc62 (by decide) hn64 (by omega) (by show 0 ≤ (0 : Int32).toInt ∧ (0 : Int32).toInt ≤ 61; omega) (Or.inr (Or.inr (wid_fix (by decide) (by decide)))) (fun h68 hO68 hv68 d66 hc67 => ?_)
    have hu68 : un [83, 84, 85, 86, 87, 7919] h54 h68 := hv68.mono (by decide)
    have t69 := fI_of ((d66 _ (by decide)).trans hc55) p56
    have t70 := fI_of ((d66 _ (by decide)).trans hc55) (gs_ne (k := 23) (v := .inl 0) p46 (by decide))
    have t71 := fI_of ((d66 _ (by decide)).trans hc55) (gs_ne (k := 23) (v := .inl 0) p47 (by decide))
    have t72 := fI_of ((d66 _ (by decide)).trans hc55) (gs_ne (k := 23) (v := .inl 0) (gs_eq (v := .inl 0) p36) (by decide))
    have t73 := fI_of ((d66 _ (by decide)).trans hc55) (gs_eq (v := .inl 0) (gs_ne (k := 22) (v := .inl 0) p37 (by decide)))
    have t74 := lm_set hc67 (by omega) (by omega)
    refine ur_ldA rfl rfl ?_
    have t75 := fI_keep (k := 19) hO54 hO68 hv68 rfl (by decide)
    refine ur_inl rfl (rcv_of ((d66 _ (by decide)).trans hc55)) (Nat.le_of_ble_eq_true rfl) (Nat.le_of_ble_eq_true rfl) (st_X12_line hO68 (by omega) (by omega) (by omega) (TX.c85 ((((hX0.2.2.2.2.cong d24).cong d32).cong d43).cong d53) hO54 d66 hc62 hc67 (by omega)) (TL.z (by omega) (by omega)) (by omega) ((((((BR.ts pre0).un hO0 hO25 hv25 (by decide) (by decide)).un hO25 hO33 hv33 (by decide) (by decide)).un hO33 hO44 hv44 (by decide) (by decide)).un hO44 hO54 hv54 (by decide) (by decide)).un hO54 hO68 hv68 (by decide) (by decide)) (RLl.z (by omega) (by omega) (by omega)) (fun w76 h85 hr77 hO85 hv85 hp78 hp79 hp80 hp81 hp82 hp83 hp84 => ?_))
    have hu85 : un [83, 84, 85, 86, 87, 7919] h68 h85 := hv85.mono (by decide)
    subst hr77
    show uRun _ (uCall Mt _) _ 54 (_, [], _, _, _)
    obtain ⟨fs86, hc87⟩ := hO85.mod
    obtain ⟨f88, p89, t90⟩ := mf_19 hO85 hc87
    have t91 := fI_of hc87 p89
    obtain ⟨f92, p93⟩ := mf_20 hO85 hc87
    have t94 := fI_of hc87 p93
    obtain ⟨f95, p96⟩ := mf_21 hO85 hc87
    have t97 := fI_of hc87 p96
    obtain ⟨f98, p99⟩ := mf_22 hO85 hc87
    have t100 := fI_of hc87 p99
    obtain ⟨f101, p102, t103⟩ := mf_23 hO85 hc87
    have t104 := fI_of hc87 p102
    have L105 : ∀ (m106 : Nat)  (h108 : aH) , OK h108 → un [83, 84, 85, 86, 87, 7919] h85 h108 → (fI h108 19 = fI h0 19 ∧ 0 ≤ fI h108 20 ∧ fI h108 20 ≤ fI h108 19 ∧ 1 ≤ lm h108 ∧ lm h108 ≤ 61 ∧ (fI h108 21 < 0 → 2 * lm h108 ≤ fI h108 20 + 1 ∧ fI h108 23 ≤ fI h108 20 ∧ fI h108 22 = 0) ∧ fI h108 21 ≤ fI h108 19) → (TX h108) → (fI h108 21 < 0 → TL h108) → (tS h108 (tR h0)) → (RLh (tR h0) h108 (fI h108 21) (fI h108 20)) → (KN h0 h108) → ((121 - fI h108 20).toNat) < m106 → uRun oX12_text (uCall Mt (d + 46)) Q 54 ([some (.inr (.inr (some 69))), some (.inl a1), none, none], [], h108, kc, ks) := by
      intro m106
      induction m106 with
      | zero => intro  h108 hO108 hu108 iv114 px109 px110 px111 px112 px113 mm115; omega
      | succ m106 ih107 =>
        intro  h108 hO108 hu108 iv114 px109 px110 px111 px112 px113 mm115
        obtain ⟨fs116, hc117⟩ := hO108.mod
        obtain ⟨f118, p119, t120⟩ := mf_19 hO108 hc117
        have t121 := fI_of hc117 p119
        obtain ⟨f122, p123⟩ := mf_20 hO108 hc117
        have t124 := fI_of hc117 p123
        obtain ⟨f125, p126⟩ := mf_21 hO108 hc117
        have t127 := fI_of hc117 p126
        obtain ⟨f128, p129⟩ := mf_22 hO108 hc117
        have t130 := fI_of hc117 p129
        obtain ⟨f131, p132, t133⟩ := mf_23 hO108 hc117
        have t134 := fI_of hc117 p132
        refine ur_ldA rfl rfl ?_
        refine ur_get rfl hc117 p126 ?_
        refine ur_if1 rfl (fun c135 => ?_) (fun c135 => ?_)
        · have t136 := le_to c135
          refine ur_ldA rfl rfl ?_
          refine ur_get rfl hc117 p126 ?_
          refine ur_if1 rfl (fun c137 => ?_) (fun c137 => ?_)
          · have t138 := le_to c137
            refine ur_ldA rfl rfl ?_
            refine ur_push rfl ?_
            refine ur_putM (W := [7919]) rfl hO108 hc117 (by decide) rfl (ms_19 (hO108.msh hc117) (show 0 ≤ (0 : Int32).toInt ∧ (0 : Int32).toInt ≤ 120 by omega)) (Or.inr (by decide)) (fun h140 hO140 hv140 d139 hc141 => ?_)
            have hu140 : un [83, 84, 85, 86, 87, 7919] h108 h140 := hv140.mono (by decide)
            have t142 := fI_of hc141 (gs_eq (v := .inl 0) p119)
            have t143 := fI_of hc141 (gs_ne (k := 19) (v := .inl 0) p123 (by decide))
            have t144 := fI_of hc141 (gs_ne (k := 19) (v := .inl 0) p126 (by decide))
            have t145 := fI_of hc141 (gs_ne (k := 19) (v := .inl 0) p129 (by decide))
            have t146 := fI_of hc141 (gs_ne (k := 19) (v := .inl 0) p132 (by decide))
            refine ur_ldA rfl rfl ?_
            refine ur_get rfl hc141 (gs_ne (k := 19) (v := .inl 0) p126 (by decide)) ?_
            refine ur_if1 rfl (fun c147 => ?_) (fun c147 => ?_)
            · have t148 := lt_to c147
              exfalso
              omega
            · have t149 := lt_no c147
              refine ur_push rfl ?_
              refine ur_ldA rfl rfl ?_
              refine ur_get rfl hc141 (gs_ne (k := 19) (v := .inl 0) p126 (by decide)) ?_
              refine ur_binV rfl (fun x150 e151 => ?_)
              have z152 := any_r f125
              have t153 := ti_sub e151 (by omega) (by omega)
              have t154 := fI_keep (k := 19) hO68 hO85 hv85 rfl (by decide)
              exact ur_ret rfl rfl (hQ _ _ ⟨_, rfl, ⟨by omega, fun _ => RLh.fault (g := fI h140 21) px112 (Or.inl ⟨by omega, by omega⟩) (by omega), fun q ls hq _ H => H.keep (px113.tr (KN.un hO108 hv140 (by decide) (by decide) (by decide) (by decide) (by decide))) hq⟩⟩ hO140 (hu25.tr (hu33.tr (hu44.tr (hu54.tr (hu68.tr (hu85.tr (hu108.tr hu140))))))) ⟨hX0.1.un hO0 hO140 (hu25.tr (hu33.tr (hu44.tr (hu54.tr (hu68.tr (hu85.tr (hu108.tr hu140))))))) (by decide) (by decide), hX0.2.1.un hO0 hO140 (hu25.tr (hu33.tr (hu44.tr (hu54.tr (hu68.tr (hu85.tr (hu108.tr hu140))))))) (by decide) (by decide), hX0.2.2.1.un hO0 hO140 (hu25.tr (hu33.tr (hu44.tr (hu54.tr (hu68.tr (hu85.tr (hu108.tr hu140))))))) (by decide) (by decide), hX0.2.2.2.1.un hO0 hO140 (hu25.tr (hu33.tr (hu44.tr (hu54.tr (hu68.tr (hu85.tr (hu108.tr hu140))))))) (by decide) (by decide) (by decide), (px109.cong d139)⟩)
          · have t155 := le_no c137
            exfalso
            omega
        · have t156 := le_no c135
          refine ur_ldA rfl rfl ?_
          have t157 := fI_keep (k := 19) hO68 hO85 hv85 rfl (by decide)
          refine ur_inl rfl (rcv_of hc117) (Nat.le_of_ble_eq_true rfl) (Nat.le_of_ble_eq_true rfl) (st_X12_look hO108 px111 (by omega) (fun w158 hr159 => ?_))
          obtain ⟨x160, rfl, t161⟩ := hr159
          show uRun _ (uCall Mt _) _ 65 (_, [(.inl x160)], _, _, _)
          refine ur_push rfl ?_
          refine ur_if2 rfl (fun c162 => ?_) (fun c162 => ?_)
          · have t163 := ne_to c162
            refine ur_ldA rfl rfl ?_
            refine ur_get rfl hc117 p126 ?_
            refine ur_if1 rfl (fun c164 => ?_) (fun c164 => ?_)
            · have t165 := le_to c164
              exfalso
              omega
            · have t166 := le_no c164
              refine ur_ldA rfl rfl ?_
              refine ur_get rfl hc117 p123 ?_
              have t167 : 0 ≤ f122.toInt ∧ f122.toInt ≤ 120 := by omega
              refine ur_ldA rfl rfl ?_
              refine ur_get rfl hc117 p119 ?_
              have z168 := any_r f122
              have z169 := any_r f118
              refine ur_if2 rfl (fun c170 => ?_) (fun c170 => ?_)
              · have t171 := le_to c170
                refine ur_ldA rfl rfl ?_
                refine ur_push rfl ?_
                refine ur_putM (W := [7919]) rfl hO108 hc117 (by decide) rfl (ms_19 (hO108.msh hc117) (show 0 ≤ (0 : Int32).toInt ∧ (0 : Int32).toInt ≤ 120 by omega)) (Or.inr (by decide)) (fun h173 hO173 hv173 d172 hc174 => ?_)
                have hu173 : un [83, 84, 85, 86, 87, 7919] h108 h173 := hv173.mono (by decide)
                have t175 := fI_of hc174 (gs_eq (v := .inl 0) p119)
                have t176 := fI_of hc174 (gs_ne (k := 19) (v := .inl 0) p123 (by decide))
                have t177 := fI_of hc174 (gs_ne (k := 19) (v := .inl 0) p126 (by decide))
                have t178 := fI_of hc174 (gs_ne (k := 19) (v := .inl 0) p129 (by decide))
                have t179 := fI_of hc174 (gs_ne (k := 19) (v := .inl 0) p132 (by decide))
                refine ur_ldA rfl rfl ?_
                refine ur_get rfl hc174 (gs_ne (k := 19) (v := .inl 0) p126 (by decide)) ?_
                refine ur_if1 rfl (fun c180 => ?_) (fun c180 => ?_)
                · have t181 := lt_to c180
                  have t182 := lm_c (d172 85 (by decide))
                  refine ur_ldI rfl rfl ?_
                  refine ur_inl rfl rfl (Nat.le_of_ble_eq_true rfl) (Nat.le_of_ble_eq_true rfl) (sg_placeFor _ (by show 0 ≤ a1.toInt ∧ a1.toInt ≤ 18; omega) (fun w183 hr184 => ?_))
                  obtain ⟨x185, rfl, t186⟩ := hr184
                  show uRun _ (uCall Mt _) _ 133 (_, [(.inl x185)], _, _, _)
                  refine ur_svIk [some (.inr (.inr (some 69))), some (.inl a1), some (.inl x185), none] rfl rfl ?_
                  have t187 : 0 ≤ x185.toInt ∧ x185.toInt ≤ 10 := by omega
                  refine ur_push rfl ?_
                  refine ur_svIk [some (.inr (.inr (some 69))), some (.inl a1), some (.inl x185), some (.inl 0)] rfl rfl ?_
                  have L189 : ∀ (m190 : Nat) (x188 : Int32) (h192 : aH) , OK h192 → un [83, 84, 85, 86, 87, 7919] h173 h192 → ((0 ≤ x188.toInt ∧ x188.toInt ≤ 130) ∧ x188.toInt ≤ fI h192 23 ∧ fI h192 23 = fI h173 23 ∧ fI h192 19 = fI h173 19) → (cp (arI h173 83) (arI h192 83) 1430 (130 * iN x185) (iN x188)) → (cp (arI h173 84) (arI h192 84) 1430 (130 * iN x185) (iN x188)) → (arI h192 85 = arI h173 85 ∧ arI h192 86 = arI h173 86 ∧ arI h192 87 = arI h173 87) → ((131 - x188.toInt).toNat) < m190 → uRun oX12_text (uCall Mt (d + 46)) Q 136 ([some (.inr (.inr (some 69))), some (.inl a1), some (.inl x185), some (.inl x188)], [], h192, kc, ks) := by
                    intro m190
                    induction m190 with
                    | zero => intro x188 h192 hO192 hu192 iv196 px193 px194 px195 mm197; omega
                    | succ m190 ih191 =>
                      intro x188 h192 hO192 hu192 iv196 px193 px194 px195 mm197
                      obtain ⟨xs199, hc198, hn200, he201⟩ := hO192.byt (hO192.fix 83 (by decide) rfl)
                      obtain ⟨xs203, hc202, hn204, he205⟩ := hO192.int (hO192.fix 84 (by decide) rfl)
                      obtain ⟨fs206, hc207⟩ := hO192.mod
                      obtain ⟨f208, p209, t210⟩ := mf_19 hO192 hc207
                      have t211 := fI_of hc207 p209
                      refine ur_ldI rfl rfl ?_
                      refine ur_ldA rfl rfl ?_
                      obtain ⟨f212, p213, t214⟩ := mf_23 hO192 hc207
                      have t215 := fI_of hc207 p213
                      refine ur_get rfl hc207 p213 ?_
                      have z216 := any_r x188
                      have z217 := any_r f212
                      refine ur_if2 rfl (fun c218 => ?_) (fun c218 => ?_)
                      · have t219 := le_to c218
                        refine ur_ldA rfl rfl ?_
                        refine ur_get rfl hc207 (mf_26 hO192 hc207) ?_
                        refine ur_ldI rfl rfl ?_
                        refine ur_ldA rfl rfl ?_
                        refine ur_get rfl hc207 (mf_26 hO192 hc207) ?_
                        refine ur_push rfl ?_
                        obtain ⟨xs221, hc220, hn222, he223⟩ := hO192.int (hO192.fix 85 (by decide) rfl)
                        refine ur_aldV rfl hc220 hn222 (by omega) (fun x224 hx225 => ?_)
                        have t226 : 0 ≤ x224.toInt ∧ x224.toInt ≤ 61 := he223 _ _ hx225
                        have t227 := lm_of hc220 hx225
                        have t228 := lm_e px195.1
                        refine ur_astV (W := [85]) (m := 12) rfl hO192 hc220 (by decide) hn222 (by omega) (by show 0 ≤ x224.toInt ∧ x224.toInt ≤ 61; omega) (Or.inr (Or.inr (wid_fix (by decide) (by decide)))) (fun h231 hO231 hv231 d229 hc230 => ?_)
                        have hu231 : un [83, 84, 85, 86, 87, 7919] h192 h231 := hv231.mono (by decide)
                        have t232 := fI_of ((d229 _ (by decide)).trans hc207) p209
                        obtain ⟨f233, p234⟩ := mf_20 hO231 ((d229 _ (by decide)).trans hc207)
                        have t235 := fI_of ((d229 _ (by decide)).trans hc207) p234
                        obtain ⟨f236, p237⟩ := mf_21 hO231 ((d229 _ (by decide)).trans hc207)
                        have t238 := fI_of ((d229 _ (by decide)).trans hc207) p237
                        obtain ⟨f239, p240⟩ := mf_22 hO231 ((d229 _ (by decide)).trans hc207)
                        have t241 := fI_of ((d229 _ (by decide)).trans hc207) p240
                        have t242 := fI_of ((d229 _ (by decide)).trans hc207) p213
                        have t243 := lnV_set hc230 (iN_lt (by omega))
                        refine ur_push rfl ?_
                        refine ur_svIk [some (.inr (.inr (some 69))), some (.inl a1), some (.inl x185), some (.inl 0)] rfl rfl ?_
                        have L245 : ∀ (m246 : Nat) (x244 : Int32) (h248 : aH) , OK h248 → un [83, 84, 85, 86, 87, 7919] h231 h248 → ((0 ≤ x244.toInt ∧ x244.toInt ≤ 61) ∧ x244.toInt ≤ lnV h248 (iN x185) ∧ lnV h248 (iN x185) = lnV h231 (iN x185) ∧ fI h248 19 = fI h231 19) → (cp (arI h231 86) (arI h248 86) 671 (61 * iN x185) (iN x244)) → (cp (arI h231 87) (arI h248 87) 671 (61 * iN x185) (iN x244)) → (arI h248 83 = arI h231 83 ∧ arI h248 84 = arI h231 84 ∧ arI h248 85 = arI h231 85) → ((62 - x244.toInt).toNat) < m246 → uRun oX12_text (uCall Mt (d + 46)) Q 209 ([some (.inr (.inr (some 69))), some (.inl a1), some (.inl x185), some (.inl x244)], [], h248, kc, ks) := by
                          intro m246
                          induction m246 with
                          | zero => intro x244 h248 hO248 hu248 iv252 px249 px250 px251 mm253; omega
                          | succ m246 ih247 =>
                            intro x244 h248 hO248 hu248 iv252 px249 px250 px251 mm253
                            obtain ⟨xs255, hc254, hn256, he257⟩ := hO248.sho (hO248.fix 86 (by decide) rfl)
                            obtain ⟨xs259, hc258, hn260, he261⟩ := hO248.sho (hO248.fix 87 (by decide) rfl)
                            obtain ⟨fs262, hc263⟩ := hO248.mod
                            obtain ⟨f264, p265, t266⟩ := mf_19 hO248 hc263
                            have t267 := fI_of hc263 p265
                            refine ur_ldI rfl rfl ?_
                            refine ur_ldA rfl rfl ?_
                            refine ur_get rfl hc263 (mf_26 hO248 hc263) ?_
                            refine ur_ldI rfl rfl ?_
                            obtain ⟨xs269, hc268, hn270, he271⟩ := hO248.int (hO248.fix 85 (by decide) rfl)
                            refine ur_aldV rfl hc268 hn270 (by omega) (fun x272 hx273 => ?_)
                            have t274 : 0 ≤ x272.toInt ∧ x272.toInt ≤ 61 := he271 _ _ hx273
                            have t275 := lnV_of (p := x185) hc268 hx273
                            have z276 := any_r x244
                            have z277 := any_r x272
                            refine ur_if2 rfl (fun c278 => ?_) (fun c278 => ?_)
                            · have t279 := le_to c278
                              refine ur_push rfl ?_
                              obtain ⟨f280, p281⟩ := mf_20 hO248 hc263
                              have t282 := fI_of hc263 p281
                              obtain ⟨f283, p284⟩ := mf_21 hO248 hc263
                              have t285 := fI_of hc263 p284
                              obtain ⟨f286, p287⟩ := mf_22 hO248 hc263
                              have t288 := fI_of hc263 p287
                              obtain ⟨f289, p290, t291⟩ := mf_23 hO248 hc263
                              have t292 := fI_of hc263 p290
                              have t293 := fI_keep (k := 19) hO192 hO231 hv231 rfl (by decide)
                              exact ur_ret rfl rfl (hQ _ _ ⟨_, rfl, ⟨by omega, fun _ => Or.inl ⟨by omega, (RLh.good px112 (by omega) (tS.out px111 (Or.inr (by omega)))).imp fun ls H => ⟨H.1, by rw [plN_e (x := x185) (by omega)]; exact RL_copied (p := iN x185) (n := (lm h173).toNat) (L := (fI h173 23).toNat) (iN_lt (by omega)) (H.2.c d172 (by omega)) (by omega) (tkR_len hO173 (by omega)) (by omega) (by rw [px251.1, arI_c (d229 83 (by decide)), iN_eq (i := fI h173 23) (x := x188) (by omega)]; exact px193) (by rw [px251.2.1, arI_c (d229 84 (by decide)), iN_eq (i := fI h173 23) (x := x188) (by omega)]; exact px194) (by rw [← show arI h231 86 = arI h173 86 from (arI_c (d229 86 (by decide))).trans px195.2.1, iN_eq (i := lm h173) (x := x244) (by omega)]; exact px249) (by rw [← show arI h231 87 = arI h173 87 from (arI_c (d229 87 (by decide))).trans px195.2.2, iN_eq (i := lm h173) (x := x244) (by omega)]; exact px250) (by rw [px251.2.2]; exact (congrArg iN (gd_set (i := iN x185) hc230 rfl (iN_lt (by omega)))).trans (iN_eq (i := lm h173) (by omega)).symm) (by omega) (by omega) hO248⟩⟩, fun q ls hq hne H => RL_other (p := iN x185) (n := (lm h173).toNat) (L := (fI h173 23).toNat) (H.keep (px113.tr (KN.un hO108 hv173 (by decide) (by decide) (by decide) (by decide) (by decide))) hq) hq (fun e => (hne.resolve_right (by omega)) (e.trans (plN_e (x := x185) (by omega)).symm)) (by rw [px251.1, arI_c (d229 83 (by decide)), iN_eq (i := fI h173 23) (x := x188) (by omega)]; exact px193) (by rw [px251.2.1, arI_c (d229 84 (by decide)), iN_eq (i := fI h173 23) (x := x188) (by omega)]; exact px194) (by rw [← show arI h231 86 = arI h173 86 from (arI_c (d229 86 (by decide))).trans px195.2.1, iN_eq (i := lm h173) (x := x244) (by omega)]; exact px249) (by rw [← show arI h231 87 = arI h173 87 from (arI_c (d229 87 (by decide))).trans px195.2.2, iN_eq (i := lm h173) (x := x244) (by omega)]; exact px250) (fun i hi hn => by rw [px251.2.2, arI_of hc230, List.getElem?_set_ne (iN_ne hn), ← arI_of hc220, px195.1]) (by omega) (by omega)⟩⟩ hO248 (hu25.tr (hu33.tr (hu44.tr (hu54.tr (hu68.tr (hu85.tr (hu108.tr (hu173.tr (hu192.tr (hu231.tr hu248)))))))))) ⟨hX0.1.un hO0 hO248 (hu25.tr (hu33.tr (hu44.tr (hu54.tr (hu68.tr (hu85.tr (hu108.tr (hu173.tr (hu192.tr (hu231.tr hu248)))))))))) (by decide) (by decide), hX0.2.1.un hO0 hO248 (hu25.tr (hu33.tr (hu44.tr (hu54.tr (hu68.tr (hu85.tr (hu108.tr (hu173.tr (hu192.tr (hu231.tr hu248)))))))))) (by decide) (by decide), hX0.2.2.1.un hO0 hO248 (hu25.tr (hu33.tr (hu44.tr (hu54.tr (hu68.tr (hu85.tr (hu108.tr (hu173.tr (hu192.tr (hu231.tr hu248)))))))))) (by decide) (by decide), hX0.2.2.2.1.un hO0 hO248 (hu25.tr (hu33.tr (hu44.tr (hu54.tr (hu68.tr (hu85.tr (hu108.tr (hu173.tr (hu192.tr (hu231.tr hu248)))))))))) (by decide) (by decide) (by decide), (TX_copied (p := iN x185) (n := (lm h173).toNat) (L := (fI h173 23).toNat) (iN_lt (by omega)) hO173 (px109.cong d172) (TL.cong (px110 (by omega)) d172 (by omega)).1 (TL.cong (px110 (by omega)) d172 (by omega)).2 (by rw [px251.1, arI_c (d229 83 (by decide)), iN_eq (i := fI h173 23) (x := x188) (by omega)]; exact px193) (by rw [px251.2.1, arI_c (d229 84 (by decide)), iN_eq (i := fI h173 23) (x := x188) (by omega)]; exact px194) (by rw [← show arI h231 86 = arI h173 86 from (arI_c (d229 86 (by decide))).trans px195.2.1, iN_eq (i := lm h173) (x := x244) (by omega)]; exact px249) (by rw [← show arI h231 87 = arI h173 87 from (arI_c (d229 87 (by decide))).trans px195.2.2, iN_eq (i := lm h173) (x := x244) (by omega)]; exact px250) (fun i hi hn => by rw [px251.2.2, arI_of hc230, List.getElem?_set_ne (iN_ne hn), ← arI_of hc220, px195.1]) (by rw [px251.2.2]; exact (congrArg iN (gd_set (i := iN x185) hc230 rfl (iN_lt (by omega)))).trans (iN_eq (i := lm h173) (by omega)).symm) (by omega) (by omega))⟩)
                            · have t294 := le_no c278
                              refine ur_ldA rfl rfl ?_
                              refine ur_get rfl hc263 (mf_27 hO248 hc263) ?_
                              refine ur_push rfl ?_
                              refine ur_ldI rfl rfl ?_
                              refine ur_binV rfl (fun x295 e296 => ?_)
                              have z297 := any_r x185
                              have t298 := ti_mulR e296 l_61 (by omega) (by omega)
                              refine ur_ldI rfl rfl ?_
                              refine ur_binV rfl (fun x299 e300 => ?_)
                              have z301 := any_r x295
                              have t302 := ti_add e300 (by omega) (by omega)
                              refine ur_ldA rfl rfl ?_
                              refine ur_get rfl hc263 (mf_27 hO248 hc263) ?_
                              refine ur_push rfl ?_
                              refine ur_ldI rfl rfl ?_
                              refine ur_binV rfl (fun x303 e304 => ?_)
                              have t305 := ti_add e304 (by omega) (by omega)
                              refine ur_aldV rfl hc254 hn256 (by omega) (fun x306 hx307 => ?_)
                              have t308 : 0 ≤ x306.toInt ∧ x306.toInt ≤ 130 := he257 _ _ hx307
                              have t311 : (vp_nar .short x306).toInt = x306.toInt := nar_vs (by omega)
                              refine ur_astV (W := [86]) (m := 732) rfl hO248 hc254 (by decide) hn256 (by omega) (by show 0 ≤ (vp_nar .short x306).toInt ∧ (vp_nar .short x306).toInt ≤ 130; rw [nar_vs (by omega)]; omega) (Or.inr (Or.inr (wid_fix (by decide) (by decide)))) (fun h312 hO312 hv312 d309 hc310 => ?_)
                              have hu312 : un [83, 84, 85, 86, 87, 7919] h248 h312 := hv312.mono (by decide)
                              refine ur_ldA rfl rfl ?_
                              refine ur_get rfl ((d309 _ (by decide)).trans hc263) (mf_28 hO312 ((d309 _ (by decide)).trans hc263)) ?_
                              refine ur_push rfl ?_
                              refine ur_ldI rfl rfl ?_
                              refine ur_binV rfl (fun x313 e314 => ?_)
                              have t315 := ti_mulR e314 l_61 (by omega) (by omega)
                              refine ur_ldI rfl rfl ?_
                              refine ur_binV rfl (fun x316 e317 => ?_)
                              have z318 := any_r x313
                              have t319 := ti_add e317 (by omega) (by omega)
                              refine ur_ldA rfl rfl ?_
                              refine ur_get rfl ((d309 _ (by decide)).trans hc263) (mf_28 hO312 ((d309 _ (by decide)).trans hc263)) ?_
                              refine ur_push rfl ?_
                              refine ur_ldI rfl rfl ?_
                              refine ur_binV rfl (fun x320 e321 => ?_)
                              have t322 := ti_add e321 (by omega) (by omega)
                              refine ur_aldV rfl ((d309 _ (by decide)).trans hc258) hn260 (by omega) (fun x323 hx324 => ?_)
                              have t325 : 0 ≤ x323.toInt ∧ x323.toInt ≤ 130 := he261 _ _ hx324
                              have t328 : (vp_nar .short x323).toInt = x323.toInt := nar_vs (by omega)
                              refine ur_astV (W := [87]) (m := 732) rfl hO312 ((d309 _ (by decide)).trans hc258) (by decide) hn260 (by omega) (by show 0 ≤ (vp_nar .short x323).toInt ∧ (vp_nar .short x323).toInt ≤ 130; rw [nar_vs (by omega)]; omega) (Or.inr (Or.inr (wid_fix (by decide) (by decide)))) (fun h329 hO329 hv329 d326 hc327 => ?_)
                              have hu329 : un [83, 84, 85, 86, 87, 7919] h312 h329 := hv329.mono (by decide)
                              have t330 := lnV_c (p := iN x185) (d309 85 (by decide))
                              have t331 := lnV_c (p := iN x185) (d326 85 (by decide))
                              refine ur_incV (fun z => [some (.inr (.inr (some 69))), some (.inl a1), some (.inl x185), some (.inl z)]) rfl rfl (fun _ => rfl) (fun x332 e333 => ?_)
                              have t334 := ti_add e333 (by omega) (by omega)
                              refine ur_go rfl ?_
                              have hc335 := ((d326 _ (by decide)).trans ((d309 _ (by decide)).trans hc263))
                              have t336 := fI_of hc335 p265
                              obtain ⟨f337, p338⟩ := mf_20 hO329 hc335
                              have t339 := fI_of hc335 p338
                              obtain ⟨f340, p341⟩ := mf_21 hO329 hc335
                              have t342 := fI_of hc335 p341
                              obtain ⟨f343, p344⟩ := mf_22 hO329 hc335
                              have t345 := fI_of hc335 p344
                              obtain ⟨f346, p347, t348⟩ := mf_23 hO329 hc335
                              have t349 := fI_of hc335 p347
                              have z350 := any_r x332
                              exact ih247 x332 _ hO329 (hu248.tr (hu312.tr hu329)) (by omega) (cpS61 (p := x185) px249 hc254 ((d326 _ (by decide)).trans hc310) hx307 (vps_eq (by omega)) hn256 (by omega) (by omega) (by omega) (by omega) (by omega)) (cpS61 (p := x185) px250 hc258 hc327 hx324 (vps_eq (by omega)) hn260 (by omega) (by omega) (by omega) (by omega) (by omega)) ⟨((arI_c (d326 83 (by decide))).trans ((arI_c (d309 83 (by decide))).trans px251.1)), ((arI_c (d326 84 (by decide))).trans ((arI_c (d309 84 (by decide))).trans px251.2.1)), ((arI_c (d326 85 (by decide))).trans ((arI_c (d309 85 (by decide))).trans px251.2.2))⟩ (by omega)
                        exact L245 _ 0 _ hO231 un.rf (by omega) (by rw [show iN 0 = 0 by decide]; exact cp.z) (by rw [show iN 0 = 0 by decide]; exact cp.z) ⟨rfl, rfl, rfl⟩ (Nat.lt_succ_self _)
                      · have t351 := le_no c218
                        refine ur_ldA rfl rfl ?_
                        refine ur_get rfl hc207 (mf_24 hO192 hc207) ?_
                        refine ur_push rfl ?_
                        refine ur_ldI rfl rfl ?_
                        refine ur_binV rfl (fun x352 e353 => ?_)
                        have z354 := any_r x185
                        have t355 := ti_mulR e353 l_130 (by omega) (by omega)
                        refine ur_ldI rfl rfl ?_
                        refine ur_binV rfl (fun x356 e357 => ?_)
                        have z358 := any_r x352
                        have t359 := ti_add e357 (by omega) (by omega)
                        refine ur_ldA rfl rfl ?_
                        refine ur_get rfl hc207 (mf_24 hO192 hc207) ?_
                        refine ur_push rfl ?_
                        refine ur_ldI rfl rfl ?_
                        refine ur_binV rfl (fun x360 e361 => ?_)
                        have t362 := ti_add e361 (by omega) (by omega)
                        refine ur_aldV rfl hc198 hn200 (by omega) (fun x363 hx364 => ?_)
                        have t365 : 0 ≤ x363.toInt ∧ x363.toInt ≤ 124 := he201 _ _ hx364
                        refine ur_astV (W := [83]) (m := 1560) rfl hO192 hc198 (by decide) hn200 (by omega) (by show 0 ≤ (vp_nar .byte x363).toInt ∧ (vp_nar .byte x363).toInt ≤ 124; rw [nar_vb (by omega)]; omega) (Or.inr (Or.inr (wid_fix (by decide) (by decide)))) (fun h368 hO368 hv368 d366 hc367 => ?_)
                        have hu368 : un [83, 84, 85, 86, 87, 7919] h192 h368 := hv368.mono (by decide)
                        refine ur_ldA rfl rfl ?_
                        refine ur_get rfl ((d366 _ (by decide)).trans hc207) (mf_25 hO368 ((d366 _ (by decide)).trans hc207)) ?_
                        refine ur_push rfl ?_
                        refine ur_ldI rfl rfl ?_
                        refine ur_binV rfl (fun x369 e370 => ?_)
                        have t371 := ti_mulR e370 l_130 (by omega) (by omega)
                        refine ur_ldI rfl rfl ?_
                        refine ur_binV rfl (fun x372 e373 => ?_)
                        have z374 := any_r x369
                        have t375 := ti_add e373 (by omega) (by omega)
                        refine ur_ldA rfl rfl ?_
                        refine ur_get rfl ((d366 _ (by decide)).trans hc207) (mf_25 hO368 ((d366 _ (by decide)).trans hc207)) ?_
                        refine ur_push rfl ?_
                        refine ur_ldI rfl rfl ?_
                        refine ur_binV rfl (fun x376 e377 => ?_)
                        have t378 := ti_add e377 (by omega) (by omega)
                        refine ur_aldV rfl ((d366 _ (by decide)).trans hc202) hn204 (by omega) (fun x379 hx380 => ?_)
                        refine ur_astV (W := [84]) (m := 1560) rfl hO368 ((d366 _ (by decide)).trans hc202) (by decide) hn204 (by omega) (any_r _) (Or.inr (Or.inr (wid_fix (by decide) (by decide)))) (fun h383 hO383 hv383 d381 hc382 => ?_)
                        have hu383 : un [83, 84, 85, 86, 87, 7919] h368 h383 := hv383.mono (by decide)
                        refine ur_incV (fun z => [some (.inr (.inr (some 69))), some (.inl a1), some (.inl x185), some (.inl z)]) rfl rfl (fun _ => rfl) (fun x384 e385 => ?_)
                        have t386 := ti_add e385 (by omega) (by omega)
                        refine ur_go rfl ?_
                        have hc387 := ((d381 _ (by decide)).trans ((d366 _ (by decide)).trans hc207))
                        have t388 := fI_of hc387 p209
                        obtain ⟨f389, p390⟩ := mf_20 hO383 hc387
                        have t391 := fI_of hc387 p390
                        obtain ⟨f392, p393⟩ := mf_21 hO383 hc387
                        have t394 := fI_of hc387 p393
                        obtain ⟨f395, p396⟩ := mf_22 hO383 hc387
                        have t397 := fI_of hc387 p396
                        have t398 := fI_of hc387 p213
                        have z399 := any_r x384
                        exact ih191 x384 _ hO383 (hu192.tr (hu368.tr hu383)) (by omega) (cpS130 (p := x185) px193 hc198 ((d381 _ (by decide)).trans hc367) hx364 (vpb_eq (by omega)) hn200 (by omega) (by omega) (by omega) (by omega) (by omega)) (cpS130 (p := x185) px194 hc202 hc382 hx380 rfl hn204 (by omega) (by omega) (by omega) (by omega) (by omega)) ⟨((arI_c (d381 85 (by decide))).trans ((arI_c (d366 85 (by decide))).trans px195.1)), ((arI_c (d381 86 (by decide))).trans ((arI_c (d366 86 (by decide))).trans px195.2.1)), ((arI_c (d381 87 (by decide))).trans ((arI_c (d366 87 (by decide))).trans px195.2.2))⟩ (by omega)
                  exact L189 _ 0 _ hO173 un.rf (by omega) (by rw [show iN 0 = 0 by decide]; exact cp.z) (by rw [show iN 0 = 0 by decide]; exact cp.z) ⟨rfl, rfl, rfl⟩ (Nat.lt_succ_self _)
                · have t400 := lt_no c180
                  exfalso
                  omega
              · have t401 := le_no c170
                have t402 := tS.nn (q := fI h108 20) px111 (by omega) (by omega)
                refine ur_ldA rfl rfl ?_
                refine ur_inl rfl (rcv_of hc117) (Nat.le_of_ble_eq_true rfl) (Nat.le_of_ble_eq_true rfl) (sf_X12_wrong hO108  (fun w403 h407 hr404 hO407 hv407 hp405 hp406 => ?_))
                have hu407 : un [83, 84, 85, 86, 87, 7919] h108 h407 := hv407.mono (by decide)
                subst hr404
                show uRun _ (uCall Mt _) _ 109 (_, [], _, _, _)
                obtain ⟨fs408, hc409⟩ := hO407.mod
                obtain ⟨f410, p411, t412⟩ := mf_19 hO407 hc409
                have t413 := fI_of hc409 p411
                obtain ⟨f414, p415⟩ := mf_20 hO407 hc409
                have t416 := fI_of hc409 p415
                obtain ⟨f417, p418⟩ := mf_21 hO407 hc409
                have t419 := fI_of hc409 p418
                obtain ⟨f420, p421⟩ := mf_22 hO407 hc409
                have t422 := fI_of hc409 p421
                obtain ⟨f423, p424, t425⟩ := mf_23 hO407 hc409
                have t426 := fI_of hc409 p424
                refine ur_ldA rfl rfl ?_
                refine ur_push rfl ?_
                refine ur_putM (W := [7919]) rfl hO407 hc409 (by decide) rfl (ms_19 (hO407.msh hc409) (show 0 ≤ (0 : Int32).toInt ∧ (0 : Int32).toInt ≤ 120 by omega)) (Or.inr (by decide)) (fun h428 hO428 hv428 d427 hc429 => ?_)
                have hu428 : un [83, 84, 85, 86, 87, 7919] h407 h428 := hv428.mono (by decide)
                have t430 := fI_of hc429 (gs_eq (v := .inl 0) p411)
                have t431 := fI_of hc429 (gs_ne (k := 19) (v := .inl 0) p415 (by decide))
                have t432 := fI_of hc429 (gs_ne (k := 19) (v := .inl 0) p418 (by decide))
                have t433 := fI_of hc429 (gs_ne (k := 19) (v := .inl 0) p421 (by decide))
                have t434 := fI_of hc429 (gs_ne (k := 19) (v := .inl 0) p424 (by decide))
                refine ur_ldA rfl rfl ?_
                refine ur_get rfl hc429 (gs_ne (k := 19) (v := .inl 0) p418 (by decide)) ?_
                refine ur_if1 rfl (fun c435 => ?_) (fun c435 => ?_)
                · have t436 := lt_to c435
                  exfalso
                  omega
                · have t437 := lt_no c435
                  refine ur_push rfl ?_
                  refine ur_ldA rfl rfl ?_
                  refine ur_get rfl hc429 (gs_ne (k := 19) (v := .inl 0) p418 (by decide)) ?_
                  refine ur_binV rfl (fun x438 e439 => ?_)
                  have z440 := any_r f417
                  have t441 := ti_sub e439 (by omega) (by omega)
                  have t442 := fI_keep (k := 19) hO108 hO407 hv407 rfl (by decide)
                  exact ur_ret rfl rfl (hQ _ _ ⟨_, rfl, ⟨by omega, fun _ => RLh.fault (g := fI h428 21) px112 (Or.inr ⟨by omega, sg_ne t161.1 (by omega) (by decide), by omega, by omega, by omega⟩) (by omega), fun q ls hq _ H => H.keep ((px113.tr (KN.un hO108 hv407 (by decide) (by decide) (by decide) (by decide) (by decide))).tr (KN.un hO407 hv428 (by decide) (by decide) (by decide) (by decide) (by decide))) hq⟩⟩ hO428 (hu25.tr (hu33.tr (hu44.tr (hu54.tr (hu68.tr (hu85.tr (hu108.tr (hu407.tr hu428)))))))) ⟨hX0.1.un hO0 hO428 (hu25.tr (hu33.tr (hu44.tr (hu54.tr (hu68.tr (hu85.tr (hu108.tr (hu407.tr hu428)))))))) (by decide) (by decide), hX0.2.1.un hO0 hO428 (hu25.tr (hu33.tr (hu44.tr (hu54.tr (hu68.tr (hu85.tr (hu108.tr (hu407.tr hu428)))))))) (by decide) (by decide), hX0.2.2.1.un hO0 hO428 (hu25.tr (hu33.tr (hu44.tr (hu54.tr (hu68.tr (hu85.tr (hu108.tr (hu407.tr hu428)))))))) (by decide) (by decide), hX0.2.2.2.1.un hO0 hO428 (hu25.tr (hu33.tr (hu44.tr (hu54.tr (hu68.tr (hu85.tr (hu108.tr (hu407.tr hu428)))))))) (by decide) (by decide) (by decide), ((TX.un px109 hO108 hv407 (by decide)).cong d427)⟩)
          · have t443 := ne_no c162
            refine ur_ldA rfl rfl ?_
            refine ur_dup rfl rfl ?_
            refine ur_get rfl hc117 p123 ?_
            have t444 : 0 ≤ f122.toInt ∧ f122.toInt ≤ 120 := by omega
            refine ur_push rfl ?_
            refine ur_binV rfl (fun x445 e446 => ?_)
            have z447 := any_r f122
            have t448 := ti_add e446 (by omega) (by omega)
            refine ur_putM (W := []) rfl hO108 hc117 (by decide) rfl (ms_20 (hO108.msh hc117)) (Or.inl rfl) (fun h450 hO450 hv450 d449 hc451 => ?_)
            have hu450 : un [83, 84, 85, 86, 87, 7919] h108 h450 := hv450.mono (by decide)
            have t452 := fI_of hc451 (gs_ne (k := 20) (v := .inl x445) p119 (by decide))
            have t453 := fI_of hc451 (gs_eq (v := .inl x445) p123)
            have t454 := fI_of hc451 (gs_ne (k := 20) (v := .inl x445) p126 (by decide))
            have t455 := fI_of hc451 (gs_ne (k := 20) (v := .inl x445) p129 (by decide))
            have t456 := fI_of hc451 (gs_ne (k := 20) (v := .inl x445) p132 (by decide))
            have t457 := lm_c (d449 85 (by decide))
            refine ur_ldA rfl rfl ?_
            refine ur_inl rfl (rcv_of hc451) (Nat.le_of_ble_eq_true rfl) (Nat.le_of_ble_eq_true rfl) (st_X12_line hO450 (by omega) (by omega) (by omega) (px109.cong d449) (TL.cong (px110 (by omega)) d449 (by omega)) (by omega) (px111.un hO108 hO450 hv450 (by decide) (by decide)) (RLh.go px112 (by omega) (tS.cl (BR.ts pre0) t161.1 (by omega) (by decide)) (by omega) (fun ls H => H.c d449 (by omega))) (fun w458 h467 hr459 hO467 hv467 hp460 hp461 hp462 hp463 hp464 hp465 hp466 => ?_))
            have hu467 : un [83, 84, 85, 86, 87, 7919] h450 h467 := hv467.mono (by decide)
            subst hr459
            show uRun _ (uCall Mt _) _ 84 (_, [], _, _, _)
            obtain ⟨fs468, hc469⟩ := hO467.mod
            obtain ⟨f470, p471, t472⟩ := mf_19 hO467 hc469
            have t473 := fI_of hc469 p471
            obtain ⟨f474, p475⟩ := mf_20 hO467 hc469
            have t476 := fI_of hc469 p475
            obtain ⟨f477, p478⟩ := mf_21 hO467 hc469
            have t479 := fI_of hc469 p478
            obtain ⟨f480, p481⟩ := mf_22 hO467 hc469
            have t482 := fI_of hc469 p481
            obtain ⟨f483, p484, t485⟩ := mf_23 hO467 hc469
            have t486 := fI_of hc469 p484
            refine ur_go rfl ?_
            exact ih107  _ hO467 (hu108.tr (hu450.tr hu467)) (by omega) hp462 hp463 ((px111.un hO108 hO450 hv450 (by decide) (by decide)).un hO450 hO467 hv467 (by decide) (by decide)) hp466 ((px113.tr (KN.un hO108 hv450 (by decide) (by decide) (by decide) (by decide) (by decide))).tr hp465) (by omega)
    exact L105 _  _ hO85 un.rf (by omega) hp80 hp81 (((((((BR.ts pre0).un hO0 hO25 hv25 (by decide) (by decide)).un hO25 hO33 hv33 (by decide) (by decide)).un hO33 hO44 hv44 (by decide) (by decide)).un hO44 hO54 hv54 (by decide) (by decide)).un hO54 hO68 hv68 (by decide) (by decide)).un hO68 hO85 hv85 (by decide) (by decide)) hp84 ((((((KN.un hO0 hv25 (by decide) (by decide) (by decide) (by decide) (by decide)).tr (KN.un hO25 hv33 (by decide) (by decide) (by decide) (by decide) (by decide))).tr (KN.un hO33 hv44 (by decide) (by decide) (by decide) (by decide) (by decide))).tr (KN.un hO44 hv54 (by decide) (by decide) (by decide) (by decide) (by decide))).tr ⟨kp_un hO54 hv68 (by decide) (by decide) _, kq_un hO54 hv68 (by decide) (by decide) _, km_of hc62 hc67 (fun i hi => List.getElem?_set_ne (by omega))⟩).tr hp83) (Nat.lt_succ_self _)
  · have t487 := wi_noL c22 l_0 l_1
    refine ur_ldI rfl rfl ?_
    refine ur_push rfl ?_
    refine ur_push rfl ?_
    refine ur_callv rfl rfl (Nat.le_of_ble_eq_true rfl) (Nat.le_of_ble_eq_true rfl) rfl (sp_in _ _ _ _ _) ?_
    refine ur_neB rfl (fun c490 => ?_) (fun c490 => ?_)
    · have t491 := wi_toL c490 l_10 l_18
      refine ur_ldA rfl rfl ?_
      refine ur_push rfl ?_
      refine ur_putM (W := []) rfl hO0 hc2 (by decide) rfl (ms_20 (hO0.msh hc2)) (Or.inl rfl) (fun h493 hO493 hv493 d492 hc494 => ?_)
      have hu493 : un [83, 84, 85, 86, 87, 7919] h0 h493 := hv493.mono (by decide)
      have t495 := fI_of hc494 (gs_ne (k := 20) (v := .inl 0) p4 (by decide))
      have t496 := fI_of hc494 (gs_eq (v := .inl 0) p8)
      have t497 := fI_of hc494 (gs_ne (k := 20) (v := .inl 0) p11 (by decide))
      have t498 := fI_of hc494 (gs_ne (k := 20) (v := .inl 0) p14 (by decide))
      have t499 := fI_of hc494 (gs_ne (k := 20) (v := .inl 0) p17 (by decide))
      refine ur_ldA rfl rfl ?_
      refine ur_push rfl ?_
      refine ur_putM (W := []) rfl hO493 hc494 (by decide) rfl (ms_21 (hO493.msh hc494)) (Or.inl rfl) (fun h501 hO501 hv501 d500 hc502 => ?_)
      have hu501 : un [83, 84, 85, 86, 87, 7919] h493 h501 := hv501.mono (by decide)
      have p503 := (gs_ne (k := 21) (v := .inl (-1)) (gs_ne (k := 20) (v := .inl 0) p4 (by decide)) (by decide))
      have p504 := (gs_ne (k := 21) (v := .inl (-1)) (gs_ne (k := 20) (v := .inl 0) p14 (by decide)) (by decide))
      have p505 := (gs_ne (k := 21) (v := .inl (-1)) (gs_ne (k := 20) (v := .inl 0) p17 (by decide)) (by decide))
      have t506 := fI_of hc502 p503
      have t507 := fI_of hc502 (gs_ne (k := 21) (v := .inl (-1)) (gs_eq (v := .inl 0) p8) (by decide))
      have t508 := fI_of hc502 (gs_eq (v := .inl (-1)) (gs_ne (k := 20) (v := .inl 0) p11 (by decide)))
      have t509 := fI_of hc502 p504
      have t510 := fI_of hc502 p505
      refine ur_ldA rfl rfl ?_
      refine ur_push rfl ?_
      refine ur_putM (W := []) rfl hO501 hc502 (by decide) rfl (ms_22 (hO501.msh hc502)) (Or.inl rfl) (fun h512 hO512 hv512 d511 hc513 => ?_)
      have hu512 : un [83, 84, 85, 86, 87, 7919] h501 h512 := hv512.mono (by decide)
      have p514 := (gs_ne (k := 22) (v := .inl 0) (gs_ne (k := 21) (v := .inl (-1)) (gs_eq (v := .inl 0) p8) (by decide)) (by decide))
      have p515 := (gs_ne (k := 22) (v := .inl 0) (gs_eq (v := .inl (-1)) (gs_ne (k := 20) (v := .inl 0) p11 (by decide))) (by decide))
      have t516 := fI_of hc513 (gs_ne (k := 22) (v := .inl 0) p503 (by decide))
      have t517 := fI_of hc513 p514
      have t518 := fI_of hc513 p515
      have t519 := fI_of hc513 (gs_eq (v := .inl 0) p504)
      have t520 := fI_of hc513 (gs_ne (k := 22) (v := .inl 0) p505 (by decide))
      refine ur_ldA rfl rfl ?_
      refine ur_push rfl ?_
      refine ur_putM (W := []) rfl hO512 hc513 (by decide) rfl (ms_23 (hO512.msh hc513) (show 0 ≤ (0 : Int32).toInt ∧ (0 : Int32).toInt ≤ 130 by omega)) (Or.inl rfl) (fun h522 hO522 hv522 d521 hc523 => ?_)
      have hu522 : un [83, 84, 85, 86, 87, 7919] h512 h522 := hv522.mono (by decide)
      have p524 := (gs_ne (k := 23) (v := .inl 0) (gs_ne (k := 22) (v := .inl 0) p503 (by decide)) (by decide))
      have t525 := fI_of hc523 p524
      have t526 := fI_of hc523 (gs_ne (k := 23) (v := .inl 0) p514 (by decide))
      have t527 := fI_of hc523 (gs_ne (k := 23) (v := .inl 0) p515 (by decide))
      have t528 := fI_of hc523 (gs_ne (k := 23) (v := .inl 0) (gs_eq (v := .inl 0) p504) (by decide))
      have t529 := fI_of hc523 (gs_eq (v := .inl 0) (gs_ne (k := 22) (v := .inl 0) p505 (by decide)))
      refine ur_ldA rfl rfl ?_
      refine ur_get rfl hc523 (mf_26 hO522 hc523) ?_
      refine ur_push rfl ?_
      refine ur_push rfl ?_
      obtain ⟨xs531, hc530, hn532, he533⟩ := hO522.int (hO522.fix 85 (by decide) rfl)
      refine ur_astV (W := [85]) (m := 12) rfl hO522 hc530 (by decide) hn532 (by omega) (by show 0 ≤ (0 : Int32).toInt ∧ (0 : Int32).toInt ≤ 61; omega) (Or.inr (Or.inr (wid_fix (by decide) (by decide)))) (fun h536 hO536 hv536 d534 hc535 => ?_)
      have hu536 : un [83, 84, 85, 86, 87, 7919] h522 h536 := hv536.mono (by decide)
      have t537 := fI_of ((d534 _ (by decide)).trans hc523) p524
      have t538 := fI_of ((d534 _ (by decide)).trans hc523) (gs_ne (k := 23) (v := .inl 0) p514 (by decide))
      have t539 := fI_of ((d534 _ (by decide)).trans hc523) (gs_ne (k := 23) (v := .inl 0) p515 (by decide))
      have t540 := fI_of ((d534 _ (by decide)).trans hc523) (gs_ne (k := 23) (v := .inl 0) (gs_eq (v := .inl 0) p504) (by decide))
      have t541 := fI_of ((d534 _ (by decide)).trans hc523) (gs_eq (v := .inl 0) (gs_ne (k := 22) (v := .inl 0) p505 (by decide)))
      have t542 := lm_set hc535 (by omega) (by omega)
      refine ur_ldA rfl rfl ?_
      have t543 := fI_keep (k := 19) hO522 hO536 hv536 rfl (by decide)
      refine ur_inl rfl (rcv_of ((d534 _ (by decide)).trans hc523)) (Nat.le_of_ble_eq_true rfl) (Nat.le_of_ble_eq_true rfl) (st_X12_line hO536 (by omega) (by omega) (by omega) (TX.c85 ((((hX0.2.2.2.2.cong d492).cong d500).cong d511).cong d521) hO522 d534 hc530 hc535 (by omega)) (TL.z (by omega) (by omega)) (by omega) ((((((BR.ts pre0).un hO0 hO493 hv493 (by decide) (by decide)).un hO493 hO501 hv501 (by decide) (by decide)).un hO501 hO512 hv512 (by decide) (by decide)).un hO512 hO522 hv522 (by decide) (by decide)).un hO522 hO536 hv536 (by decide) (by decide)) (RLl.z (by omega) (by omega) (by omega)) (fun w544 h553 hr545 hO553 hv553 hp546 hp547 hp548 hp549 hp550 hp551 hp552 => ?_))
      have hu553 : un [83, 84, 85, 86, 87, 7919] h536 h553 := hv553.mono (by decide)
      subst hr545
      show uRun _ (uCall Mt _) _ 54 (_, [], _, _, _)
      obtain ⟨fs554, hc555⟩ := hO553.mod
      obtain ⟨f556, p557, t558⟩ := mf_19 hO553 hc555
      have t559 := fI_of hc555 p557
      obtain ⟨f560, p561⟩ := mf_20 hO553 hc555
      have t562 := fI_of hc555 p561
      obtain ⟨f563, p564⟩ := mf_21 hO553 hc555
      have t565 := fI_of hc555 p564
      obtain ⟨f566, p567⟩ := mf_22 hO553 hc555
      have t568 := fI_of hc555 p567
      obtain ⟨f569, p570, t571⟩ := mf_23 hO553 hc555
      have t572 := fI_of hc555 p570
      have L573 : ∀ (m574 : Nat)  (h576 : aH) , OK h576 → un [83, 84, 85, 86, 87, 7919] h553 h576 → (fI h576 19 = fI h0 19 ∧ 0 ≤ fI h576 20 ∧ fI h576 20 ≤ fI h576 19 ∧ 1 ≤ lm h576 ∧ lm h576 ≤ 61 ∧ (fI h576 21 < 0 → 2 * lm h576 ≤ fI h576 20 + 1 ∧ fI h576 23 ≤ fI h576 20 ∧ fI h576 22 = 0) ∧ fI h576 21 ≤ fI h576 19) → (TX h576) → (fI h576 21 < 0 → TL h576) → (tS h576 (tR h0)) → (RLh (tR h0) h576 (fI h576 21) (fI h576 20)) → (KN h0 h576) → ((121 - fI h576 20).toNat) < m574 → uRun oX12_text (uCall Mt (d + 46)) Q 54 ([some (.inr (.inr (some 69))), some (.inl a1), none, none], [], h576, kc, ks) := by
        intro m574
        induction m574 with
        | zero => intro  h576 hO576 hu576 iv582 px577 px578 px579 px580 px581 mm583; omega
        | succ m574 ih575 =>
          intro  h576 hO576 hu576 iv582 px577 px578 px579 px580 px581 mm583
          obtain ⟨fs584, hc585⟩ := hO576.mod
          obtain ⟨f586, p587, t588⟩ := mf_19 hO576 hc585
          have t589 := fI_of hc585 p587
          obtain ⟨f590, p591⟩ := mf_20 hO576 hc585
          have t592 := fI_of hc585 p591
          obtain ⟨f593, p594⟩ := mf_21 hO576 hc585
          have t595 := fI_of hc585 p594
          obtain ⟨f596, p597⟩ := mf_22 hO576 hc585
          have t598 := fI_of hc585 p597
          obtain ⟨f599, p600, t601⟩ := mf_23 hO576 hc585
          have t602 := fI_of hc585 p600
          refine ur_ldA rfl rfl ?_
          refine ur_get rfl hc585 p594 ?_
          refine ur_if1 rfl (fun c603 => ?_) (fun c603 => ?_)
          · have t604 := le_to c603
            refine ur_ldA rfl rfl ?_
            refine ur_get rfl hc585 p594 ?_
            refine ur_if1 rfl (fun c605 => ?_) (fun c605 => ?_)
            · have t606 := le_to c605
              refine ur_ldA rfl rfl ?_
              refine ur_push rfl ?_
              refine ur_putM (W := [7919]) rfl hO576 hc585 (by decide) rfl (ms_19 (hO576.msh hc585) (show 0 ≤ (0 : Int32).toInt ∧ (0 : Int32).toInt ≤ 120 by omega)) (Or.inr (by decide)) (fun h608 hO608 hv608 d607 hc609 => ?_)
              have hu608 : un [83, 84, 85, 86, 87, 7919] h576 h608 := hv608.mono (by decide)
              have t610 := fI_of hc609 (gs_eq (v := .inl 0) p587)
              have t611 := fI_of hc609 (gs_ne (k := 19) (v := .inl 0) p591 (by decide))
              have t612 := fI_of hc609 (gs_ne (k := 19) (v := .inl 0) p594 (by decide))
              have t613 := fI_of hc609 (gs_ne (k := 19) (v := .inl 0) p597 (by decide))
              have t614 := fI_of hc609 (gs_ne (k := 19) (v := .inl 0) p600 (by decide))
              refine ur_ldA rfl rfl ?_
              refine ur_get rfl hc609 (gs_ne (k := 19) (v := .inl 0) p594 (by decide)) ?_
              refine ur_if1 rfl (fun c615 => ?_) (fun c615 => ?_)
              · have t616 := lt_to c615
                exfalso
                omega
              · have t617 := lt_no c615
                refine ur_push rfl ?_
                refine ur_ldA rfl rfl ?_
                refine ur_get rfl hc609 (gs_ne (k := 19) (v := .inl 0) p594 (by decide)) ?_
                refine ur_binV rfl (fun x618 e619 => ?_)
                have z620 := any_r f593
                have t621 := ti_sub e619 (by omega) (by omega)
                have t622 := fI_keep (k := 19) hO536 hO553 hv553 rfl (by decide)
                exact ur_ret rfl rfl (hQ _ _ ⟨_, rfl, ⟨by omega, fun _ => RLh.fault (g := fI h608 21) px580 (Or.inl ⟨by omega, by omega⟩) (by omega), fun q ls hq _ H => H.keep (px581.tr (KN.un hO576 hv608 (by decide) (by decide) (by decide) (by decide) (by decide))) hq⟩⟩ hO608 (hu493.tr (hu501.tr (hu512.tr (hu522.tr (hu536.tr (hu553.tr (hu576.tr hu608))))))) ⟨hX0.1.un hO0 hO608 (hu493.tr (hu501.tr (hu512.tr (hu522.tr (hu536.tr (hu553.tr (hu576.tr hu608))))))) (by decide) (by decide), hX0.2.1.un hO0 hO608 (hu493.tr (hu501.tr (hu512.tr (hu522.tr (hu536.tr (hu553.tr (hu576.tr hu608))))))) (by decide) (by decide), hX0.2.2.1.un hO0 hO608 (hu493.tr (hu501.tr (hu512.tr (hu522.tr (hu536.tr (hu553.tr (hu576.tr hu608))))))) (by decide) (by decide), hX0.2.2.2.1.un hO0 hO608 (hu493.tr (hu501.tr (hu512.tr (hu522.tr (hu536.tr (hu553.tr (hu576.tr hu608))))))) (by decide) (by decide) (by decide), (px577.cong d607)⟩)
            · have t623 := le_no c605
              exfalso
              omega
          · have t624 := le_no c603
            refine ur_ldA rfl rfl ?_
            have t625 := fI_keep (k := 19) hO536 hO553 hv553 rfl (by decide)
            refine ur_inl rfl (rcv_of hc585) (Nat.le_of_ble_eq_true rfl) (Nat.le_of_ble_eq_true rfl) (st_X12_look hO576 px579 (by omega) (fun w626 hr627 => ?_))
            obtain ⟨x628, rfl, t629⟩ := hr627
            show uRun _ (uCall Mt _) _ 65 (_, [(.inl x628)], _, _, _)
            refine ur_push rfl ?_
            refine ur_if2 rfl (fun c630 => ?_) (fun c630 => ?_)
            · have t631 := ne_to c630
              refine ur_ldA rfl rfl ?_
              refine ur_get rfl hc585 p594 ?_
              refine ur_if1 rfl (fun c632 => ?_) (fun c632 => ?_)
              · have t633 := le_to c632
                exfalso
                omega
              · have t634 := le_no c632
                refine ur_ldA rfl rfl ?_
                refine ur_get rfl hc585 p591 ?_
                have t635 : 0 ≤ f590.toInt ∧ f590.toInt ≤ 120 := by omega
                refine ur_ldA rfl rfl ?_
                refine ur_get rfl hc585 p587 ?_
                have z636 := any_r f590
                have z637 := any_r f586
                refine ur_if2 rfl (fun c638 => ?_) (fun c638 => ?_)
                · have t639 := le_to c638
                  refine ur_ldA rfl rfl ?_
                  refine ur_push rfl ?_
                  refine ur_putM (W := [7919]) rfl hO576 hc585 (by decide) rfl (ms_19 (hO576.msh hc585) (show 0 ≤ (0 : Int32).toInt ∧ (0 : Int32).toInt ≤ 120 by omega)) (Or.inr (by decide)) (fun h641 hO641 hv641 d640 hc642 => ?_)
                  have hu641 : un [83, 84, 85, 86, 87, 7919] h576 h641 := hv641.mono (by decide)
                  have t643 := fI_of hc642 (gs_eq (v := .inl 0) p587)
                  have t644 := fI_of hc642 (gs_ne (k := 19) (v := .inl 0) p591 (by decide))
                  have t645 := fI_of hc642 (gs_ne (k := 19) (v := .inl 0) p594 (by decide))
                  have t646 := fI_of hc642 (gs_ne (k := 19) (v := .inl 0) p597 (by decide))
                  have t647 := fI_of hc642 (gs_ne (k := 19) (v := .inl 0) p600 (by decide))
                  refine ur_ldA rfl rfl ?_
                  refine ur_get rfl hc642 (gs_ne (k := 19) (v := .inl 0) p594 (by decide)) ?_
                  refine ur_if1 rfl (fun c648 => ?_) (fun c648 => ?_)
                  · have t649 := lt_to c648
                    have t650 := lm_c (d640 85 (by decide))
                    refine ur_ldI rfl rfl ?_
                    refine ur_inl rfl rfl (Nat.le_of_ble_eq_true rfl) (Nat.le_of_ble_eq_true rfl) (sg_placeFor _ (by show 0 ≤ a1.toInt ∧ a1.toInt ≤ 18; omega) (fun w651 hr652 => ?_))
                    obtain ⟨x653, rfl, t654⟩ := hr652
                    show uRun _ (uCall Mt _) _ 133 (_, [(.inl x653)], _, _, _)
                    refine ur_svIk [some (.inr (.inr (some 69))), some (.inl a1), some (.inl x653), none] rfl rfl ?_
                    have t655 : 0 ≤ x653.toInt ∧ x653.toInt ≤ 10 := by omega
                    refine ur_push rfl ?_
                    refine ur_svIk [some (.inr (.inr (some 69))), some (.inl a1), some (.inl x653), some (.inl 0)] rfl rfl ?_
                    have L657 : ∀ (m658 : Nat) (x656 : Int32) (h660 : aH) , OK h660 → un [83, 84, 85, 86, 87, 7919] h641 h660 → ((0 ≤ x656.toInt ∧ x656.toInt ≤ 130) ∧ x656.toInt ≤ fI h660 23 ∧ fI h660 23 = fI h641 23 ∧ fI h660 19 = fI h641 19) → (cp (arI h641 83) (arI h660 83) 1430 (130 * iN x653) (iN x656)) → (cp (arI h641 84) (arI h660 84) 1430 (130 * iN x653) (iN x656)) → (arI h660 85 = arI h641 85 ∧ arI h660 86 = arI h641 86 ∧ arI h660 87 = arI h641 87) → ((131 - x656.toInt).toNat) < m658 → uRun oX12_text (uCall Mt (d + 46)) Q 136 ([some (.inr (.inr (some 69))), some (.inl a1), some (.inl x653), some (.inl x656)], [], h660, kc, ks) := by
                      intro m658
                      induction m658 with
                      | zero => intro x656 h660 hO660 hu660 iv664 px661 px662 px663 mm665; omega
                      | succ m658 ih659 =>
                        intro x656 h660 hO660 hu660 iv664 px661 px662 px663 mm665
                        obtain ⟨xs667, hc666, hn668, he669⟩ := hO660.byt (hO660.fix 83 (by decide) rfl)
                        obtain ⟨xs671, hc670, hn672, he673⟩ := hO660.int (hO660.fix 84 (by decide) rfl)
                        obtain ⟨fs674, hc675⟩ := hO660.mod
                        obtain ⟨f676, p677, t678⟩ := mf_19 hO660 hc675
                        have t679 := fI_of hc675 p677
                        refine ur_ldI rfl rfl ?_
                        refine ur_ldA rfl rfl ?_
                        obtain ⟨f680, p681, t682⟩ := mf_23 hO660 hc675
                        have t683 := fI_of hc675 p681
                        refine ur_get rfl hc675 p681 ?_
                        have z684 := any_r x656
                        have z685 := any_r f680
                        refine ur_if2 rfl (fun c686 => ?_) (fun c686 => ?_)
                        · have t687 := le_to c686
                          refine ur_ldA rfl rfl ?_
                          refine ur_get rfl hc675 (mf_26 hO660 hc675) ?_
                          refine ur_ldI rfl rfl ?_
                          refine ur_ldA rfl rfl ?_
                          refine ur_get rfl hc675 (mf_26 hO660 hc675) ?_
                          refine ur_push rfl ?_
                          obtain ⟨xs689, hc688, hn690, he691⟩ := hO660.int (hO660.fix 85 (by decide) rfl)
                          refine ur_aldV rfl hc688 hn690 (by omega) (fun x692 hx693 => ?_)
                          have t694 : 0 ≤ x692.toInt ∧ x692.toInt ≤ 61 := he691 _ _ hx693
                          have t695 := lm_of hc688 hx693
                          have t696 := lm_e px663.1
                          refine ur_astV (W := [85]) (m := 12) rfl hO660 hc688 (by decide) hn690 (by omega) (by show 0 ≤ x692.toInt ∧ x692.toInt ≤ 61; omega) (Or.inr (Or.inr (wid_fix (by decide) (by decide)))) (fun h699 hO699 hv699 d697 hc698 => ?_)
                          have hu699 : un [83, 84, 85, 86, 87, 7919] h660 h699 := hv699.mono (by decide)
                          have t700 := fI_of ((d697 _ (by decide)).trans hc675) p677
                          obtain ⟨f701, p702⟩ := mf_20 hO699 ((d697 _ (by decide)).trans hc675)
                          have t703 := fI_of ((d697 _ (by decide)).trans hc675) p702
                          obtain ⟨f704, p705⟩ := mf_21 hO699 ((d697 _ (by decide)).trans hc675)
                          have t706 := fI_of ((d697 _ (by decide)).trans hc675) p705
                          obtain ⟨f707, p708⟩ := mf_22 hO699 ((d697 _ (by decide)).trans hc675)
                          have t709 := fI_of ((d697 _ (by decide)).trans hc675) p708
                          have t710 := fI_of ((d697 _ (by decide)).trans hc675) p681
                          have t711 := lnV_set hc698 (iN_lt (by omega))
                          refine ur_push rfl ?_
                          refine ur_svIk [some (.inr (.inr (some 69))), some (.inl a1), some (.inl x653), some (.inl 0)] rfl rfl ?_
                          have L713 : ∀ (m714 : Nat) (x712 : Int32) (h716 : aH) , OK h716 → un [83, 84, 85, 86, 87, 7919] h699 h716 → ((0 ≤ x712.toInt ∧ x712.toInt ≤ 61) ∧ x712.toInt ≤ lnV h716 (iN x653) ∧ lnV h716 (iN x653) = lnV h699 (iN x653) ∧ fI h716 19 = fI h699 19) → (cp (arI h699 86) (arI h716 86) 671 (61 * iN x653) (iN x712)) → (cp (arI h699 87) (arI h716 87) 671 (61 * iN x653) (iN x712)) → (arI h716 83 = arI h699 83 ∧ arI h716 84 = arI h699 84 ∧ arI h716 85 = arI h699 85) → ((62 - x712.toInt).toNat) < m714 → uRun oX12_text (uCall Mt (d + 46)) Q 209 ([some (.inr (.inr (some 69))), some (.inl a1), some (.inl x653), some (.inl x712)], [], h716, kc, ks) := by
                            intro m714
                            induction m714 with
                            | zero => intro x712 h716 hO716 hu716 iv720 px717 px718 px719 mm721; omega
                            | succ m714 ih715 =>
                              intro x712 h716 hO716 hu716 iv720 px717 px718 px719 mm721
                              obtain ⟨xs723, hc722, hn724, he725⟩ := hO716.sho (hO716.fix 86 (by decide) rfl)
                              obtain ⟨xs727, hc726, hn728, he729⟩ := hO716.sho (hO716.fix 87 (by decide) rfl)
                              obtain ⟨fs730, hc731⟩ := hO716.mod
                              obtain ⟨f732, p733, t734⟩ := mf_19 hO716 hc731
                              have t735 := fI_of hc731 p733
                              refine ur_ldI rfl rfl ?_
                              refine ur_ldA rfl rfl ?_
                              refine ur_get rfl hc731 (mf_26 hO716 hc731) ?_
                              refine ur_ldI rfl rfl ?_
                              obtain ⟨xs737, hc736, hn738, he739⟩ := hO716.int (hO716.fix 85 (by decide) rfl)
                              refine ur_aldV rfl hc736 hn738 (by omega) (fun x740 hx741 => ?_)
                              have t742 : 0 ≤ x740.toInt ∧ x740.toInt ≤ 61 := he739 _ _ hx741
                              have t743 := lnV_of (p := x653) hc736 hx741
                              have z744 := any_r x712
                              have z745 := any_r x740
                              refine ur_if2 rfl (fun c746 => ?_) (fun c746 => ?_)
                              · have t747 := le_to c746
                                refine ur_push rfl ?_
                                obtain ⟨f748, p749⟩ := mf_20 hO716 hc731
                                have t750 := fI_of hc731 p749
                                obtain ⟨f751, p752⟩ := mf_21 hO716 hc731
                                have t753 := fI_of hc731 p752
                                obtain ⟨f754, p755⟩ := mf_22 hO716 hc731
                                have t756 := fI_of hc731 p755
                                obtain ⟨f757, p758, t759⟩ := mf_23 hO716 hc731
                                have t760 := fI_of hc731 p758
                                have t761 := fI_keep (k := 19) hO660 hO699 hv699 rfl (by decide)
                                exact ur_ret rfl rfl (hQ _ _ ⟨_, rfl, ⟨by omega, fun _ => Or.inl ⟨by omega, (RLh.good px580 (by omega) (tS.out px579 (Or.inr (by omega)))).imp fun ls H => ⟨H.1, by rw [plN_e (x := x653) (by omega)]; exact RL_copied (p := iN x653) (n := (lm h641).toNat) (L := (fI h641 23).toNat) (iN_lt (by omega)) (H.2.c d640 (by omega)) (by omega) (tkR_len hO641 (by omega)) (by omega) (by rw [px719.1, arI_c (d697 83 (by decide)), iN_eq (i := fI h641 23) (x := x656) (by omega)]; exact px661) (by rw [px719.2.1, arI_c (d697 84 (by decide)), iN_eq (i := fI h641 23) (x := x656) (by omega)]; exact px662) (by rw [← show arI h699 86 = arI h641 86 from (arI_c (d697 86 (by decide))).trans px663.2.1, iN_eq (i := lm h641) (x := x712) (by omega)]; exact px717) (by rw [← show arI h699 87 = arI h641 87 from (arI_c (d697 87 (by decide))).trans px663.2.2, iN_eq (i := lm h641) (x := x712) (by omega)]; exact px718) (by rw [px719.2.2]; exact (congrArg iN (gd_set (i := iN x653) hc698 rfl (iN_lt (by omega)))).trans (iN_eq (i := lm h641) (by omega)).symm) (by omega) (by omega) hO716⟩⟩, fun q ls hq hne H => RL_other (p := iN x653) (n := (lm h641).toNat) (L := (fI h641 23).toNat) (H.keep (px581.tr (KN.un hO576 hv641 (by decide) (by decide) (by decide) (by decide) (by decide))) hq) hq (fun e => (hne.resolve_right (by omega)) (e.trans (plN_e (x := x653) (by omega)).symm)) (by rw [px719.1, arI_c (d697 83 (by decide)), iN_eq (i := fI h641 23) (x := x656) (by omega)]; exact px661) (by rw [px719.2.1, arI_c (d697 84 (by decide)), iN_eq (i := fI h641 23) (x := x656) (by omega)]; exact px662) (by rw [← show arI h699 86 = arI h641 86 from (arI_c (d697 86 (by decide))).trans px663.2.1, iN_eq (i := lm h641) (x := x712) (by omega)]; exact px717) (by rw [← show arI h699 87 = arI h641 87 from (arI_c (d697 87 (by decide))).trans px663.2.2, iN_eq (i := lm h641) (x := x712) (by omega)]; exact px718) (fun i hi hn => by rw [px719.2.2, arI_of hc698, List.getElem?_set_ne (iN_ne hn), ← arI_of hc688, px663.1]) (by omega) (by omega)⟩⟩ hO716 (hu493.tr (hu501.tr (hu512.tr (hu522.tr (hu536.tr (hu553.tr (hu576.tr (hu641.tr (hu660.tr (hu699.tr hu716)))))))))) ⟨hX0.1.un hO0 hO716 (hu493.tr (hu501.tr (hu512.tr (hu522.tr (hu536.tr (hu553.tr (hu576.tr (hu641.tr (hu660.tr (hu699.tr hu716)))))))))) (by decide) (by decide), hX0.2.1.un hO0 hO716 (hu493.tr (hu501.tr (hu512.tr (hu522.tr (hu536.tr (hu553.tr (hu576.tr (hu641.tr (hu660.tr (hu699.tr hu716)))))))))) (by decide) (by decide), hX0.2.2.1.un hO0 hO716 (hu493.tr (hu501.tr (hu512.tr (hu522.tr (hu536.tr (hu553.tr (hu576.tr (hu641.tr (hu660.tr (hu699.tr hu716)))))))))) (by decide) (by decide), hX0.2.2.2.1.un hO0 hO716 (hu493.tr (hu501.tr (hu512.tr (hu522.tr (hu536.tr (hu553.tr (hu576.tr (hu641.tr (hu660.tr (hu699.tr hu716)))))))))) (by decide) (by decide) (by decide), (TX_copied (p := iN x653) (n := (lm h641).toNat) (L := (fI h641 23).toNat) (iN_lt (by omega)) hO641 (px577.cong d640) (TL.cong (px578 (by omega)) d640 (by omega)).1 (TL.cong (px578 (by omega)) d640 (by omega)).2 (by rw [px719.1, arI_c (d697 83 (by decide)), iN_eq (i := fI h641 23) (x := x656) (by omega)]; exact px661) (by rw [px719.2.1, arI_c (d697 84 (by decide)), iN_eq (i := fI h641 23) (x := x656) (by omega)]; exact px662) (by rw [← show arI h699 86 = arI h641 86 from (arI_c (d697 86 (by decide))).trans px663.2.1, iN_eq (i := lm h641) (x := x712) (by omega)]; exact px717) (by rw [← show arI h699 87 = arI h641 87 from (arI_c (d697 87 (by decide))).trans px663.2.2, iN_eq (i := lm h641) (x := x712) (by omega)]; exact px718) (fun i hi hn => by rw [px719.2.2, arI_of hc698, List.getElem?_set_ne (iN_ne hn), ← arI_of hc688, px663.1]) (by rw [px719.2.2]; exact (congrArg iN (gd_set (i := iN x653) hc698 rfl (iN_lt (by omega)))).trans (iN_eq (i := lm h641) (by omega)).symm) (by omega) (by omega))⟩)
                              · have t762 := le_no c746
                                refine ur_ldA rfl rfl ?_
                                refine ur_get rfl hc731 (mf_27 hO716 hc731) ?_
                                refine ur_push rfl ?_
                                refine ur_ldI rfl rfl ?_
                                refine ur_binV rfl (fun x763 e764 => ?_)
                                have z765 := any_r x653
                                have t766 := ti_mulR e764 l_61 (by omega) (by omega)
                                refine ur_ldI rfl rfl ?_
                                refine ur_binV rfl (fun x767 e768 => ?_)
                                have z769 := any_r x763
                                have t770 := ti_add e768 (by omega) (by omega)
                                refine ur_ldA rfl rfl ?_
                                refine ur_get rfl hc731 (mf_27 hO716 hc731) ?_
                                refine ur_push rfl ?_
                                refine ur_ldI rfl rfl ?_
                                refine ur_binV rfl (fun x771 e772 => ?_)
                                have t773 := ti_add e772 (by omega) (by omega)
                                refine ur_aldV rfl hc722 hn724 (by omega) (fun x774 hx775 => ?_)
                                have t776 : 0 ≤ x774.toInt ∧ x774.toInt ≤ 130 := he725 _ _ hx775
                                have t779 : (vp_nar .short x774).toInt = x774.toInt := nar_vs (by omega)
                                refine ur_astV (W := [86]) (m := 732) rfl hO716 hc722 (by decide) hn724 (by omega) (by show 0 ≤ (vp_nar .short x774).toInt ∧ (vp_nar .short x774).toInt ≤ 130; rw [nar_vs (by omega)]; omega) (Or.inr (Or.inr (wid_fix (by decide) (by decide)))) (fun h780 hO780 hv780 d777 hc778 => ?_)
                                have hu780 : un [83, 84, 85, 86, 87, 7919] h716 h780 := hv780.mono (by decide)
                                refine ur_ldA rfl rfl ?_
                                refine ur_get rfl ((d777 _ (by decide)).trans hc731) (mf_28 hO780 ((d777 _ (by decide)).trans hc731)) ?_
                                refine ur_push rfl ?_
                                refine ur_ldI rfl rfl ?_
                                refine ur_binV rfl (fun x781 e782 => ?_)
                                have t783 := ti_mulR e782 l_61 (by omega) (by omega)
                                refine ur_ldI rfl rfl ?_
                                refine ur_binV rfl (fun x784 e785 => ?_)
                                have z786 := any_r x781
                                have t787 := ti_add e785 (by omega) (by omega)
                                refine ur_ldA rfl rfl ?_
                                refine ur_get rfl ((d777 _ (by decide)).trans hc731) (mf_28 hO780 ((d777 _ (by decide)).trans hc731)) ?_
                                refine ur_push rfl ?_
                                refine ur_ldI rfl rfl ?_
                                refine ur_binV rfl (fun x788 e789 => ?_)
                                have t790 := ti_add e789 (by omega) (by omega)
                                refine ur_aldV rfl ((d777 _ (by decide)).trans hc726) hn728 (by omega) (fun x791 hx792 => ?_)
                                have t793 : 0 ≤ x791.toInt ∧ x791.toInt ≤ 130 := he729 _ _ hx792
                                have t796 : (vp_nar .short x791).toInt = x791.toInt := nar_vs (by omega)
                                refine ur_astV (W := [87]) (m := 732) rfl hO780 ((d777 _ (by decide)).trans hc726) (by decide) hn728 (by omega) (by show 0 ≤ (vp_nar .short x791).toInt ∧ (vp_nar .short x791).toInt ≤ 130; rw [nar_vs (by omega)]; omega) (Or.inr (Or.inr (wid_fix (by decide) (by decide)))) (fun h797 hO797 hv797 d794 hc795 => ?_)
                                have hu797 : un [83, 84, 85, 86, 87, 7919] h780 h797 := hv797.mono (by decide)
                                have t798 := lnV_c (p := iN x653) (d777 85 (by decide))
                                have t799 := lnV_c (p := iN x653) (d794 85 (by decide))
                                refine ur_incV (fun z => [some (.inr (.inr (some 69))), some (.inl a1), some (.inl x653), some (.inl z)]) rfl rfl (fun _ => rfl) (fun x800 e801 => ?_)
                                have t802 := ti_add e801 (by omega) (by omega)
                                refine ur_go rfl ?_
                                have hc803 := ((d794 _ (by decide)).trans ((d777 _ (by decide)).trans hc731))
                                have t804 := fI_of hc803 p733
                                obtain ⟨f805, p806⟩ := mf_20 hO797 hc803
                                have t807 := fI_of hc803 p806
                                obtain ⟨f808, p809⟩ := mf_21 hO797 hc803
                                have t810 := fI_of hc803 p809
                                obtain ⟨f811, p812⟩ := mf_22 hO797 hc803
                                have t813 := fI_of hc803 p812
                                obtain ⟨f814, p815, t816⟩ := mf_23 hO797 hc803
                                have t817 := fI_of hc803 p815
                                have z818 := any_r x800
                                exact ih715 x800 _ hO797 (hu716.tr (hu780.tr hu797)) (by omega) (cpS61 (p := x653) px717 hc722 ((d794 _ (by decide)).trans hc778) hx775 (vps_eq (by omega)) hn724 (by omega) (by omega) (by omega) (by omega) (by omega)) (cpS61 (p := x653) px718 hc726 hc795 hx792 (vps_eq (by omega)) hn728 (by omega) (by omega) (by omega) (by omega) (by omega)) ⟨((arI_c (d794 83 (by decide))).trans ((arI_c (d777 83 (by decide))).trans px719.1)), ((arI_c (d794 84 (by decide))).trans ((arI_c (d777 84 (by decide))).trans px719.2.1)), ((arI_c (d794 85 (by decide))).trans ((arI_c (d777 85 (by decide))).trans px719.2.2))⟩ (by omega)
                          exact L713 _ 0 _ hO699 un.rf (by omega) (by rw [show iN 0 = 0 by decide]; exact cp.z) (by rw [show iN 0 = 0 by decide]; exact cp.z) ⟨rfl, rfl, rfl⟩ (Nat.lt_succ_self _)
                        · have t819 := le_no c686
                          refine ur_ldA rfl rfl ?_
                          refine ur_get rfl hc675 (mf_24 hO660 hc675) ?_
                          refine ur_push rfl ?_
                          refine ur_ldI rfl rfl ?_
                          refine ur_binV rfl (fun x820 e821 => ?_)
                          have z822 := any_r x653
                          have t823 := ti_mulR e821 l_130 (by omega) (by omega)
                          refine ur_ldI rfl rfl ?_
                          refine ur_binV rfl (fun x824 e825 => ?_)
                          have z826 := any_r x820
                          have t827 := ti_add e825 (by omega) (by omega)
                          refine ur_ldA rfl rfl ?_
                          refine ur_get rfl hc675 (mf_24 hO660 hc675) ?_
                          refine ur_push rfl ?_
                          refine ur_ldI rfl rfl ?_
                          refine ur_binV rfl (fun x828 e829 => ?_)
                          have t830 := ti_add e829 (by omega) (by omega)
                          refine ur_aldV rfl hc666 hn668 (by omega) (fun x831 hx832 => ?_)
                          have t833 : 0 ≤ x831.toInt ∧ x831.toInt ≤ 124 := he669 _ _ hx832
                          refine ur_astV (W := [83]) (m := 1560) rfl hO660 hc666 (by decide) hn668 (by omega) (by show 0 ≤ (vp_nar .byte x831).toInt ∧ (vp_nar .byte x831).toInt ≤ 124; rw [nar_vb (by omega)]; omega) (Or.inr (Or.inr (wid_fix (by decide) (by decide)))) (fun h836 hO836 hv836 d834 hc835 => ?_)
                          have hu836 : un [83, 84, 85, 86, 87, 7919] h660 h836 := hv836.mono (by decide)
                          refine ur_ldA rfl rfl ?_
                          refine ur_get rfl ((d834 _ (by decide)).trans hc675) (mf_25 hO836 ((d834 _ (by decide)).trans hc675)) ?_
                          refine ur_push rfl ?_
                          refine ur_ldI rfl rfl ?_
                          refine ur_binV rfl (fun x837 e838 => ?_)
                          have t839 := ti_mulR e838 l_130 (by omega) (by omega)
                          refine ur_ldI rfl rfl ?_
                          refine ur_binV rfl (fun x840 e841 => ?_)
                          have z842 := any_r x837
                          have t843 := ti_add e841 (by omega) (by omega)
                          refine ur_ldA rfl rfl ?_
                          refine ur_get rfl ((d834 _ (by decide)).trans hc675) (mf_25 hO836 ((d834 _ (by decide)).trans hc675)) ?_
                          refine ur_push rfl ?_
                          refine ur_ldI rfl rfl ?_
                          refine ur_binV rfl (fun x844 e845 => ?_)
                          have t846 := ti_add e845 (by omega) (by omega)
                          refine ur_aldV rfl ((d834 _ (by decide)).trans hc670) hn672 (by omega) (fun x847 hx848 => ?_)
                          refine ur_astV (W := [84]) (m := 1560) rfl hO836 ((d834 _ (by decide)).trans hc670) (by decide) hn672 (by omega) (any_r _) (Or.inr (Or.inr (wid_fix (by decide) (by decide)))) (fun h851 hO851 hv851 d849 hc850 => ?_)
                          have hu851 : un [83, 84, 85, 86, 87, 7919] h836 h851 := hv851.mono (by decide)
                          refine ur_incV (fun z => [some (.inr (.inr (some 69))), some (.inl a1), some (.inl x653), some (.inl z)]) rfl rfl (fun _ => rfl) (fun x852 e853 => ?_)
                          have t854 := ti_add e853 (by omega) (by omega)
                          refine ur_go rfl ?_
                          have hc855 := ((d849 _ (by decide)).trans ((d834 _ (by decide)).trans hc675))
                          have t856 := fI_of hc855 p677
                          obtain ⟨f857, p858⟩ := mf_20 hO851 hc855
                          have t859 := fI_of hc855 p858
                          obtain ⟨f860, p861⟩ := mf_21 hO851 hc855
                          have t862 := fI_of hc855 p861
                          obtain ⟨f863, p864⟩ := mf_22 hO851 hc855
                          have t865 := fI_of hc855 p864
                          have t866 := fI_of hc855 p681
                          have z867 := any_r x852
                          exact ih659 x852 _ hO851 (hu660.tr (hu836.tr hu851)) (by omega) (cpS130 (p := x653) px661 hc666 ((d849 _ (by decide)).trans hc835) hx832 (vpb_eq (by omega)) hn668 (by omega) (by omega) (by omega) (by omega) (by omega)) (cpS130 (p := x653) px662 hc670 hc850 hx848 rfl hn672 (by omega) (by omega) (by omega) (by omega) (by omega)) ⟨((arI_c (d849 85 (by decide))).trans ((arI_c (d834 85 (by decide))).trans px663.1)), ((arI_c (d849 86 (by decide))).trans ((arI_c (d834 86 (by decide))).trans px663.2.1)), ((arI_c (d849 87 (by decide))).trans ((arI_c (d834 87 (by decide))).trans px663.2.2))⟩ (by omega)
                    exact L657 _ 0 _ hO641 un.rf (by omega) (by rw [show iN 0 = 0 by decide]; exact cp.z) (by rw [show iN 0 = 0 by decide]; exact cp.z) ⟨rfl, rfl, rfl⟩ (Nat.lt_succ_self _)
                  · have t868 := lt_no c648
                    exfalso
                    omega
                · have t869 := le_no c638
                  have t870 := tS.nn (q := fI h576 20) px579 (by omega) (by omega)
                  refine ur_ldA rfl rfl ?_
                  refine ur_inl rfl (rcv_of hc585) (Nat.le_of_ble_eq_true rfl) (Nat.le_of_ble_eq_true rfl) (sf_X12_wrong hO576  (fun w871 h875 hr872 hO875 hv875 hp873 hp874 => ?_))
                  have hu875 : un [83, 84, 85, 86, 87, 7919] h576 h875 := hv875.mono (by decide)
                  subst hr872
                  show uRun _ (uCall Mt _) _ 109 (_, [], _, _, _)
                  obtain ⟨fs876, hc877⟩ := hO875.mod
                  obtain ⟨f878, p879, t880⟩ := mf_19 hO875 hc877
                  have t881 := fI_of hc877 p879
                  obtain ⟨f882, p883⟩ := mf_20 hO875 hc877
                  have t884 := fI_of hc877 p883
                  obtain ⟨f885, p886⟩ := mf_21 hO875 hc877
                  have t887 := fI_of hc877 p886
                  obtain ⟨f888, p889⟩ := mf_22 hO875 hc877
                  have t890 := fI_of hc877 p889
                  obtain ⟨f891, p892, t893⟩ := mf_23 hO875 hc877
                  have t894 := fI_of hc877 p892
                  refine ur_ldA rfl rfl ?_
                  refine ur_push rfl ?_
                  refine ur_putM (W := [7919]) rfl hO875 hc877 (by decide) rfl (ms_19 (hO875.msh hc877) (show 0 ≤ (0 : Int32).toInt ∧ (0 : Int32).toInt ≤ 120 by omega)) (Or.inr (by decide)) (fun h896 hO896 hv896 d895 hc897 => ?_)
                  have hu896 : un [83, 84, 85, 86, 87, 7919] h875 h896 := hv896.mono (by decide)
                  have t898 := fI_of hc897 (gs_eq (v := .inl 0) p879)
                  have t899 := fI_of hc897 (gs_ne (k := 19) (v := .inl 0) p883 (by decide))
                  have t900 := fI_of hc897 (gs_ne (k := 19) (v := .inl 0) p886 (by decide))
                  have t901 := fI_of hc897 (gs_ne (k := 19) (v := .inl 0) p889 (by decide))
                  have t902 := fI_of hc897 (gs_ne (k := 19) (v := .inl 0) p892 (by decide))
                  refine ur_ldA rfl rfl ?_
                  refine ur_get rfl hc897 (gs_ne (k := 19) (v := .inl 0) p886 (by decide)) ?_
                  refine ur_if1 rfl (fun c903 => ?_) (fun c903 => ?_)
                  · have t904 := lt_to c903
                    exfalso
                    omega
                  · have t905 := lt_no c903
                    refine ur_push rfl ?_
                    refine ur_ldA rfl rfl ?_
                    refine ur_get rfl hc897 (gs_ne (k := 19) (v := .inl 0) p886 (by decide)) ?_
                    refine ur_binV rfl (fun x906 e907 => ?_)
                    have z908 := any_r f885
                    have t909 := ti_sub e907 (by omega) (by omega)
                    have t910 := fI_keep (k := 19) hO576 hO875 hv875 rfl (by decide)
                    exact ur_ret rfl rfl (hQ _ _ ⟨_, rfl, ⟨by omega, fun _ => RLh.fault (g := fI h896 21) px580 (Or.inr ⟨by omega, sg_ne t629.1 (by omega) (by decide), by omega, by omega, by omega⟩) (by omega), fun q ls hq _ H => H.keep ((px581.tr (KN.un hO576 hv875 (by decide) (by decide) (by decide) (by decide) (by decide))).tr (KN.un hO875 hv896 (by decide) (by decide) (by decide) (by decide) (by decide))) hq⟩⟩ hO896 (hu493.tr (hu501.tr (hu512.tr (hu522.tr (hu536.tr (hu553.tr (hu576.tr (hu875.tr hu896)))))))) ⟨hX0.1.un hO0 hO896 (hu493.tr (hu501.tr (hu512.tr (hu522.tr (hu536.tr (hu553.tr (hu576.tr (hu875.tr hu896)))))))) (by decide) (by decide), hX0.2.1.un hO0 hO896 (hu493.tr (hu501.tr (hu512.tr (hu522.tr (hu536.tr (hu553.tr (hu576.tr (hu875.tr hu896)))))))) (by decide) (by decide), hX0.2.2.1.un hO0 hO896 (hu493.tr (hu501.tr (hu512.tr (hu522.tr (hu536.tr (hu553.tr (hu576.tr (hu875.tr hu896)))))))) (by decide) (by decide), hX0.2.2.2.1.un hO0 hO896 (hu493.tr (hu501.tr (hu512.tr (hu522.tr (hu536.tr (hu553.tr (hu576.tr (hu875.tr hu896)))))))) (by decide) (by decide) (by decide), ((TX.un px577 hO576 hv875 (by decide)).cong d895)⟩)
            · have t911 := ne_no c630
              refine ur_ldA rfl rfl ?_
              refine ur_dup rfl rfl ?_
              refine ur_get rfl hc585 p591 ?_
              have t912 : 0 ≤ f590.toInt ∧ f590.toInt ≤ 120 := by omega
              refine ur_push rfl ?_
              refine ur_binV rfl (fun x913 e914 => ?_)
              have z915 := any_r f590
              have t916 := ti_add e914 (by omega) (by omega)
              refine ur_putM (W := []) rfl hO576 hc585 (by decide) rfl (ms_20 (hO576.msh hc585)) (Or.inl rfl) (fun h918 hO918 hv918 d917 hc919 => ?_)
              have hu918 : un [83, 84, 85, 86, 87, 7919] h576 h918 := hv918.mono (by decide)
              have t920 := fI_of hc919 (gs_ne (k := 20) (v := .inl x913) p587 (by decide))
              have t921 := fI_of hc919 (gs_eq (v := .inl x913) p591)
              have t922 := fI_of hc919 (gs_ne (k := 20) (v := .inl x913) p594 (by decide))
              have t923 := fI_of hc919 (gs_ne (k := 20) (v := .inl x913) p597 (by decide))
              have t924 := fI_of hc919 (gs_ne (k := 20) (v := .inl x913) p600 (by decide))
              have t925 := lm_c (d917 85 (by decide))
              refine ur_ldA rfl rfl ?_
              refine ur_inl rfl (rcv_of hc919) (Nat.le_of_ble_eq_true rfl) (Nat.le_of_ble_eq_true rfl) (st_X12_line hO918 (by omega) (by omega) (by omega) (px577.cong d917) (TL.cong (px578 (by omega)) d917 (by omega)) (by omega) (px579.un hO576 hO918 hv918 (by decide) (by decide)) (RLh.go px580 (by omega) (tS.cl (BR.ts pre0) t629.1 (by omega) (by decide)) (by omega) (fun ls H => H.c d917 (by omega))) (fun w926 h935 hr927 hO935 hv935 hp928 hp929 hp930 hp931 hp932 hp933 hp934 => ?_))
              have hu935 : un [83, 84, 85, 86, 87, 7919] h918 h935 := hv935.mono (by decide)
              subst hr927
              show uRun _ (uCall Mt _) _ 84 (_, [], _, _, _)
              obtain ⟨fs936, hc937⟩ := hO935.mod
              obtain ⟨f938, p939, t940⟩ := mf_19 hO935 hc937
              have t941 := fI_of hc937 p939
              obtain ⟨f942, p943⟩ := mf_20 hO935 hc937
              have t944 := fI_of hc937 p943
              obtain ⟨f945, p946⟩ := mf_21 hO935 hc937
              have t947 := fI_of hc937 p946
              obtain ⟨f948, p949⟩ := mf_22 hO935 hc937
              have t950 := fI_of hc937 p949
              obtain ⟨f951, p952, t953⟩ := mf_23 hO935 hc937
              have t954 := fI_of hc937 p952
              refine ur_go rfl ?_
              exact ih575  _ hO935 (hu576.tr (hu918.tr hu935)) (by omega) hp930 hp931 ((px579.un hO576 hO918 hv918 (by decide) (by decide)).un hO918 hO935 hv935 (by decide) (by decide)) hp934 ((px581.tr (KN.un hO576 hv918 (by decide) (by decide) (by decide) (by decide) (by decide))).tr hp933) (by omega)
      exact L573 _  _ hO553 un.rf (by omega) hp548 hp549 (((((((BR.ts pre0).un hO0 hO493 hv493 (by decide) (by decide)).un hO493 hO501 hv501 (by decide) (by decide)).un hO501 hO512 hv512 (by decide) (by decide)).un hO512 hO522 hv522 (by decide) (by decide)).un hO522 hO536 hv536 (by decide) (by decide)).un hO536 hO553 hv553 (by decide) (by decide)) hp552 ((((((KN.un hO0 hv493 (by decide) (by decide) (by decide) (by decide) (by decide)).tr (KN.un hO493 hv501 (by decide) (by decide) (by decide) (by decide) (by decide))).tr (KN.un hO501 hv512 (by decide) (by decide) (by decide) (by decide) (by decide))).tr (KN.un hO512 hv522 (by decide) (by decide) (by decide) (by decide) (by decide))).tr ⟨kp_un hO522 hv536 (by decide) (by decide) _, kq_un hO522 hv536 (by decide) (by decide) _, km_of hc530 hc535 (fun i hi => List.getElem?_set_ne (by omega))⟩).tr hp551) (Nat.lt_succ_self _)
    · have t955 := wi_noL c490 l_10 l_18
      refine ur_push rfl ?_
      exact ur_ret rfl rfl (hQ _ _ ⟨_, rfl, ⟨by omega, fun q => by exfalso; omega, fun _ _ _ _ H => H⟩⟩ hO0 un.rf hX0)
end TRL
