/-! THE READER OF THE REFERENCE, exactly; printed by program but for its head -/
section TRHa
/-- the tape of the reference is t: bytes 0 .. 255, -1 behind the end -/
def tS (h : aH) (t : Int → Int) : Prop := ∀ p, (0 ≤ p ∧ p < fI h 19 → (gI h 82 p = t p ∧ 0 ≤ t p ∧ t p ≤ 127) ∨ (gI h 82 p = t p - 256 ∧ 128 ≤ t p ∧ t p ≤ 255)) ∧ (¬ (0 ≤ p ∧ p < fI h 19) → t p = -1)
theorem tS.un {W : List Nat} {h h' : aH} {t : Int → Int} (e : tS h t) (hO : OK h) (hO' : OK h') (g : un W h h') (w1 : 7919 ∉ W) (w2 : 82 ∉ W) : tS h' t := fun p => by
  rw [fI_keep (k := 19) hO hO' g rfl w1, gI_keep (a := 82) (kd := 1) (n := 120) hO g p (by decide) rfl (by decide) rfl (by decide) w2]
  exact e p
theorem tS.in {h : aH} {t : Int → Int} {xs : List Int32} {kd : Nat} {j z : Int32} {q : Int} (e : tS h t) (hc : h[82]? = some (.inr (kd, .inl xs))) (hx : xs[j.toInt.toNat]? = some z) (hq : q = j.toInt) (h0 : 0 ≤ q) (h1 : q < fI h 19) : (z.toInt = t q ∧ 0 ≤ t q ∧ t q ≤ 127) ∨ (z.toInt = t q - 256 ∧ 128 ≤ t q ∧ t q ≤ 255) := by
  subst hq
  rw [← gI_of hc hx]
  exact (e _).1 ⟨h0, h1⟩
theorem tS.out {h : aH} {t : Int → Int} {q : Int} (e : tS h t) (h1 : q < 0 ∨ fI h 19 ≤ q) : t q = -1 := (e q).2 (by omega)
def tkR (h : aH) : List (Int × Int) := (seg (arI h 83) (arI h 84) 1430 (iL h)).map (fun q => (q.1.toInt, q.2.toInt))
theorem tkR_kp {h h' : aH} (k : kp h h' (iL h)) (f : fI h' 23 = fI h 23) : tkR h' = tkR h := by
  unfold tkR
  rw [show iL h' = iL h by unfold iL; rw [f], seg_same (fun m hm => k m hm)]
theorem tkR_lay {h h' : aH} {a : Int} {b : Int32} (k : kp h h' (iL h)) (s : sA h' (iL h) a b) (f : fI h' 23 = fI h 23 + 1) (h0 : 0 ≤ fI h 23) : tkR h' = tkR h ++ [(a, b.toInt)] := by
  obtain ⟨x, q1, q2, q3⟩ := s
  unfold tkR
  rw [show iL h' = iL h + 1 by unfold iL; rw [f]; omega, seg_app (j := iL h) (by unfold iL; omega) (by omega), List.map_append, seg_same (fun m hm => k m hm), seg_one q1 q3, ← q2]
  rfl
theorem tkR_nil {h : aH} (f : fI h 23 = 0) : tkR h = [] := by
  unfold tkR seg
  rw [show iL h = 1430 by unfold iL; rw [f]; rfl, Nat.sub_self, List.take_zero]
  rfl
theorem nmc_tx {x T : Int} (h : (x = T ∧ -1 ≤ T) ∨ (x = T - 256 ∧ 128 ≤ T ∧ T ≤ 255)) : nmc T = nmc x := by
  rcases h with ⟨e, -⟩ | ⟨e, a, b⟩
  · rw [e]
  · subst e
    unfold nmc
    omega
/-- what look tells of a byte -/
def sgT (T : Int) : Int := if T < 128 then T else T - 256
theorem tS.sg {h : aH} {t : Int → Int} {xs : List Int32} {kd : Nat} {j z : Int32} {q : Int} (e : tS h t) (hc : h[82]? = some (.inr (kd, .inl xs))) (hx : xs[j.toInt.toNat]? = some z) (hq : q = j.toInt) (h0 : 0 ≤ q) (h1 : q < fI h 19) : z.toInt = sgT (t q) := by
  unfold sgT
  rcases e.in hc hx hq h0 h1 with ⟨a, b, c⟩ | ⟨a, b, c⟩
  · rw [if_pos (by omega), a]
  · rw [if_neg (by omega), a]
theorem tS.so {h : aH} {t : Int → Int} {q : Int} (e : tS h t) (h1 : q < 0 ∨ fI h 19 ≤ q) : sgT (t q) = -1 := by
  rw [e.out h1]
  rfl
theorem tS.b {h : aH} {t : Int → Int} (e : tS h t) (q : Int) : -1 ≤ t q ∧ t q ≤ 255 := by
  by_cases k : 0 ≤ q ∧ q < fI h 19
  · rcases (e q).1 k with g | g <;> omega
  · have := (e q).2 k
    omega
theorem tS.c {h : aH} {t : Int → Int} {q x : Int} (e : tS h t) (f : x = sgT (t q)) (hx : 0 ≤ x) : t q = x := by
  have b := e.b q
  unfold sgT at f
  split at f <;> omega
theorem tS.cl {h : aH} {t : Int → Int} {q x c : Int} (e : tS h t) (f : x = sgT (t q)) (hx : x = c) (hc : 0 ≤ c) : t q = c := (e.c f (by omega)).trans hx
theorem sg_ne {T x c : Int} (f : x = sgT T) (hx : x ≠ c) (hc : c < 128) : T ≠ c := fun e => by
  subst e
  unfold sgT at f
  rw [if_pos hc] at f
  exact hx f
theorem dg_no {T x : Int} (f : x = sgT T) (h : ¬ (48 ≤ x ∧ x ≤ 57)) : ¬ (48 ≤ T ∧ T ≤ 57) := fun q => by
  unfold sgT at f
  rw [if_pos (by omega)] at f
  omega
theorem tS.dg {h : aH} {t : Int → Int} {q x : Int} (e : tS h t) (f : x = sgT (t q)) (hx : 48 ≤ x ∧ x ≤ 57) : 48 ≤ t q ∧ t q ≤ 57 := by
  rw [e.c f (by omega)]
  exact hx
theorem iop_no {l T x : Int} (f : x = sgT T) (h : ¬ iop l x) : ¬ iop l T := fun q => by
  have z := iop_ne q
  unfold sgT at f
  rw [if_pos (by omega)] at f
  rw [f] at h
  exact h q
theorem tS.nm {h : aH} {t : Int → Int} {q x : Int} (e : tS h t) (f : x = sgT (t q)) : nmc (t q) = nmc x := by
  have b := e.b q
  unfold sgT at f
  by_cases k : t q < 128
  · rw [if_pos k] at f
    rw [f]
  · rw [if_neg k] at f
    exact nmc_tx (Or.inr ⟨f, by omega, b.2⟩)
theorem tkR_2 {u' w u : List (Int × Int)} {a b c : Int} (d : u' = w ++ [(a, b)]) (e : w = u) (ha : a = c) : u' = u ++ [(c, b)] := by
  subst e ha
  exact d
theorem nrd_ge {t : Int → Int} : ∀ (k : Nat) (p v : Int), p ≤ (nrd t k p v).1
  | 0, p, v => Int.le_refl _
  | k + 1, p, v => by
    show p ≤ (if 48 ≤ t p ∧ t p ≤ 57 then nrd t k (p + 1) (10 * v + t p - 48) else (p, v)).1
    by_cases q : 48 ≤ t p ∧ t p ≤ 57
    · rw [if_pos q]
      have := nrd_ge (t := t) k (p + 1) (10 * v + t p - 48)
      omega
    · rw [if_neg q]
      exact Int.le_refl _
theorem nrX_d {t : Int → Int} {p0 i p v : Int} (h : nrX t p0 i p v) (hp : p0 < p) : 48 ≤ t p0 ∧ t p0 ≤ 57 := by
  by_cases q : 48 ≤ t p0 ∧ t p0 ≤ 57
  · exact q
  · have e := h.1
    rw [nrd_e (Or.inr q)] at e
    have g := nrd_ge (t := t) (6 - i).toNat p v
    rw [← e] at g
    exact absurd g (by show ¬ p ≤ p0; omega)
theorem ROt.nm {t : Int → Int} {o p p' v z i f' o' : Int} {u u' : List (Int × Int)} (h : nrX t p i p' v) (h0 : 0 ≤ i ∧ i ≤ 6) (he : i = 6 ∨ ¬ (48 ≤ t p' ∧ t p' ≤ 57)) (hp : p < p') (ho : o ≤ 6) (ev : u' = u ++ [(1, z)]) (hz : z = v) (eo : o' = o) (hx : (48 ≤ t p' ∧ t p' ≤ 57) ∧ 0 ≤ f' ∧ f' = p' ∨ ¬ (48 ≤ t p' ∧ t p' ≤ 57) ∧ f' < 0) : ROt t 0 o p u f' o' p' u' := by
  have g := nrX_e h h0 he
  exact ROt.num ho (nrX_d h hp) g.1 g.2 ev hz eo hx
theorem ROt.cast {t : Int → Int} {l o p f o' p' f2 o2 p2 : Int} {u u' u2 : List (Int × Int)} (h : ROt t l o p u f o' p' u') (e4 : f2 = f ∧ o2 = o' ∧ p2 = p') (eu : u2 = u') : ROt t l o p u f2 o2 p2 u2 := by
  obtain ⟨e1, e2, e3⟩ := e4
  subst e1 e2 e3 eu
  exact h
theorem LOt.cast {t : Int → Int} {l o p f o' p' f2 o2 p2 : Int} {u u' u2 : List (Int × Int)} (h : LOt t l o p u f o' p' u') (e4 : f2 = f ∧ o2 = o' ∧ p2 = p') (eu : u2 = u') : LOt t l o p u f2 o2 p2 u2 := by
  obtain ⟨e1, e2, e3⟩ := e4
  subst e1 e2 e3 eu
  exact h
set_option maxRecDepth 20000 in
set_option maxHeartbeats 4000000 in
theorem st_X12_look {d kc ks : Nat} {h0 : aH} {Q : Option aV → aH → Prop} {t : Int → Int} (hO0 : OK h0)  (pre0 : tS h0 t) (pre1 : 0 ≤ fI h0 20) (hQ : ∀ r, (∃ x : Int32, r = some (.inl x) ∧ (x.toInt = sgT (t (fI h0 20)) ∧ (x.toInt = -1 ∨ fI h0 20 < fI h0 19))) → Q r h0) : uCall Mt (d + 1) 213 [(.inr (.inr (some 69)))] h0 kc ks Q := by
  have l_m1 : ((-1) : Int32).toInt = -1 := by decide
  refine uc_ink [some (.inr (.inr (some 69)))] mt_213 (Nat.le_of_ble_eq_true rfl) rfl ?_
  obtain ⟨fs1, hc2⟩ := hO0.mod
  obtain ⟨f3, p4, t5⟩ := mf_19 hO0 hc2
  have t6 := fI_of hc2 p4
  obtain ⟨f7, p8⟩ := mf_20 hO0 hc2
  have t9 := fI_of hc2 p8
  refine ur_ldA rfl rfl ?_
  refine ur_get rfl hc2 p8 ?_
  refine ur_ldA rfl rfl ?_
  refine ur_get rfl hc2 p4 ?_
  have z10 := any_r f7
  have z11 := any_r f3
  refine ur_if2 rfl (fun c12 => ?_) (fun c12 => ?_)
  · have t13 := le_to c12
    have t14 := tS.so (q := fI h0 20) pre0 (by omega)
    refine ur_push rfl ?_
    exact ur_ret rfl rfl (hQ _ ⟨_, rfl, by omega⟩ )
  · have t15 := le_no c12
    refine ur_ldA rfl rfl ?_
    refine ur_get rfl hc2 (mf_18 hO0 hc2) ?_
    refine ur_ldA rfl rfl ?_
    refine ur_get rfl hc2 p8 ?_
    obtain ⟨xs17, hc16, hn18, he19⟩ := hO0.byt (hO0.fix 82 (by decide) rfl)
    refine ur_aldV rfl hc16 hn18 (by omega) (fun x20 hx21 => ?_)
    have t22 := tS.sg (q := fI h0 20) pre0 hc16 hx21 (by omega) (by omega) (by omega)
    refine ur_go rfl ?_
    exact ur_ret rfl rfl (hQ _ ⟨_, rfl, by omega⟩ )

set_option maxRecDepth 20000 in
set_option maxHeartbeats 4000000 in
theorem st_X12_nameOf {d kc ks : Nat} {h0 : aH} {Q : Option aV → aH → Prop} (hO0 : OK h0) (a0 : Int32) (hQ : ∀ r, (∃ x : Int32, r = some (.inl x) ∧ (x.toInt = nmc a0.toInt ∧ (-1 ≤ x.toInt ∧ x.toInt ≤ 9) ∧ (0 ≤ x.toInt → 98 ≤ a0.toInt))) → Q r h0) : uCall Mt (d + 1) 216 [(.inl a0)] h0 kc ks Q := by
  have l_m1 : ((-1) : Int32).toInt = -1 := by decide
  have l_0 : ((0) : Int32).toInt = 0 := by decide
  have l_1 : ((1) : Int32).toInt = 1 := by decide
  have l_2 : ((2) : Int32).toInt = 2 := by decide
  have l_3 : ((3) : Int32).toInt = 3 := by decide
  have l_4 : ((4) : Int32).toInt = 4 := by decide
  have l_5 : ((5) : Int32).toInt = 5 := by decide
  have l_6 : ((6) : Int32).toInt = 6 := by decide
  have l_7 : ((7) : Int32).toInt = 7 := by decide
  have l_8 : ((8) : Int32).toInt = 8 := by decide
  have l_9 : ((9) : Int32).toInt = 9 := by decide
  refine uc_ink [some (.inl a0)] mt_216 (Nat.le_of_ble_eq_true rfl) rfl ?_
  refine ur_ldI rfl rfl ?_
  rcases (show (a0.toInt < 98 ∨ 121 < a0.toInt) ∨ a0.toInt = 98 ∨ a0.toInt = 99 ∨ a0.toInt = 100 ∨ a0.toInt = 101 ∨ a0.toInt = 102 ∨ a0.toInt = 103 ∨ a0.toInt = 104 ∨ a0.toInt = 105 ∨ a0.toInt = 106 ∨ a0.toInt = 107 ∨ a0.toInt = 108 ∨ a0.toInt = 109 ∨ a0.toInt = 110 ∨ a0.toInt = 111 ∨ a0.toInt = 112 ∨ a0.toInt = 113 ∨ a0.toInt = 114 ∨ a0.toInt = 115 ∨ a0.toInt = 116 ∨ a0.toInt = 117 ∨ a0.toInt = 118 ∨ a0.toInt = 119 ∨ a0.toInt = 120 ∨ a0.toInt = 121 by omega) with t1 | t1 | t1 | t1 | t1 | t1 | t1 | t1 | t1 | t1 | t1 | t1 | t1 | t1 | t1 | t1 | t1 | t1 | t1 | t1 | t1 | t1 | t1 | t1 | t1
  · refine ur_tabO rfl (by show a0.toInt < 98 ∨ 98 + 24 ≤ a0.toInt; omega) ?_
    refine ur_push rfl ?_
    exact ur_ret rfl rfl (hQ _ ⟨_, rfl, ⟨by unfold nmc; omega, by omega, fun q => by omega⟩⟩ )
  · refine ur_tabI rfl (by omega) (by rw [t1]; rfl) ?_
    refine ur_push rfl ?_
    exact ur_ret rfl rfl (hQ _ ⟨_, rfl, ⟨by unfold nmc; omega, by omega, fun q => by omega⟩⟩ )
  · refine ur_tabI rfl (by omega) (by rw [t1]; rfl) ?_
    refine ur_push rfl ?_
    exact ur_ret rfl rfl (hQ _ ⟨_, rfl, ⟨by unfold nmc; omega, by omega, fun q => by omega⟩⟩ )
  · refine ur_tabI rfl (by omega) (by rw [t1]; rfl) ?_
    refine ur_push rfl ?_
    exact ur_ret rfl rfl (hQ _ ⟨_, rfl, ⟨by unfold nmc; omega, by omega, fun q => by omega⟩⟩ )
  · refine ur_tabI rfl (by omega) (by rw [t1]; rfl) ?_
    refine ur_push rfl ?_
    exact ur_ret rfl rfl (hQ _ ⟨_, rfl, ⟨by unfold nmc; omega, by omega, fun q => by omega⟩⟩ )
  · refine ur_tabI rfl (by omega) (by rw [t1]; rfl) ?_
    refine ur_push rfl ?_
    exact ur_ret rfl rfl (hQ _ ⟨_, rfl, ⟨by unfold nmc; omega, by omega, fun q => by omega⟩⟩ )
  · refine ur_tabI rfl (by omega) (by rw [t1]; rfl) ?_
    refine ur_push rfl ?_
    exact ur_ret rfl rfl (hQ _ ⟨_, rfl, ⟨by unfold nmc; omega, by omega, fun q => by omega⟩⟩ )
  · refine ur_tabI rfl (by omega) (by rw [t1]; rfl) ?_
    refine ur_push rfl ?_
    exact ur_ret rfl rfl (hQ _ ⟨_, rfl, ⟨by unfold nmc; omega, by omega, fun q => by omega⟩⟩ )
  · refine ur_tabI rfl (by omega) (by rw [t1]; rfl) ?_
    refine ur_push rfl ?_
    exact ur_ret rfl rfl (hQ _ ⟨_, rfl, ⟨by unfold nmc; omega, by omega, fun q => by omega⟩⟩ )
  · refine ur_tabI rfl (by omega) (by rw [t1]; rfl) ?_
    refine ur_push rfl ?_
    exact ur_ret rfl rfl (hQ _ ⟨_, rfl, ⟨by unfold nmc; omega, by omega, fun q => by omega⟩⟩ )
  · refine ur_tabI rfl (by omega) (by rw [t1]; rfl) ?_
    refine ur_push rfl ?_
    exact ur_ret rfl rfl (hQ _ ⟨_, rfl, ⟨by unfold nmc; omega, by omega, fun q => by omega⟩⟩ )
  · refine ur_tabI rfl (by omega) (by rw [t1]; rfl) ?_
    refine ur_push rfl ?_
    exact ur_ret rfl rfl (hQ _ ⟨_, rfl, ⟨by unfold nmc; omega, by omega, fun q => by omega⟩⟩ )
  · refine ur_tabI rfl (by omega) (by rw [t1]; rfl) ?_
    refine ur_push rfl ?_
    exact ur_ret rfl rfl (hQ _ ⟨_, rfl, ⟨by unfold nmc; omega, by omega, fun q => by omega⟩⟩ )
  · refine ur_tabI rfl (by omega) (by rw [t1]; rfl) ?_
    refine ur_push rfl ?_
    exact ur_ret rfl rfl (hQ _ ⟨_, rfl, ⟨by unfold nmc; omega, by omega, fun q => by omega⟩⟩ )
  · refine ur_tabI rfl (by omega) (by rw [t1]; rfl) ?_
    refine ur_push rfl ?_
    exact ur_ret rfl rfl (hQ _ ⟨_, rfl, ⟨by unfold nmc; omega, by omega, fun q => by omega⟩⟩ )
  · refine ur_tabI rfl (by omega) (by rw [t1]; rfl) ?_
    refine ur_push rfl ?_
    exact ur_ret rfl rfl (hQ _ ⟨_, rfl, ⟨by unfold nmc; omega, by omega, fun q => by omega⟩⟩ )
  · refine ur_tabI rfl (by omega) (by rw [t1]; rfl) ?_
    refine ur_push rfl ?_
    exact ur_ret rfl rfl (hQ _ ⟨_, rfl, ⟨by unfold nmc; omega, by omega, fun q => by omega⟩⟩ )
  · refine ur_tabI rfl (by omega) (by rw [t1]; rfl) ?_
    refine ur_push rfl ?_
    exact ur_ret rfl rfl (hQ _ ⟨_, rfl, ⟨by unfold nmc; omega, by omega, fun q => by omega⟩⟩ )
  · refine ur_tabI rfl (by omega) (by rw [t1]; rfl) ?_
    refine ur_push rfl ?_
    exact ur_ret rfl rfl (hQ _ ⟨_, rfl, ⟨by unfold nmc; omega, by omega, fun q => by omega⟩⟩ )
  · refine ur_tabI rfl (by omega) (by rw [t1]; rfl) ?_
    refine ur_push rfl ?_
    exact ur_ret rfl rfl (hQ _ ⟨_, rfl, ⟨by unfold nmc; omega, by omega, fun q => by omega⟩⟩ )
  · refine ur_tabI rfl (by omega) (by rw [t1]; rfl) ?_
    refine ur_push rfl ?_
    exact ur_ret rfl rfl (hQ _ ⟨_, rfl, ⟨by unfold nmc; omega, by omega, fun q => by omega⟩⟩ )
  · refine ur_tabI rfl (by omega) (by rw [t1]; rfl) ?_
    refine ur_push rfl ?_
    exact ur_ret rfl rfl (hQ _ ⟨_, rfl, ⟨by unfold nmc; omega, by omega, fun q => by omega⟩⟩ )
  · refine ur_tabI rfl (by omega) (by rw [t1]; rfl) ?_
    refine ur_push rfl ?_
    exact ur_ret rfl rfl (hQ _ ⟨_, rfl, ⟨by unfold nmc; omega, by omega, fun q => by omega⟩⟩ )
  · refine ur_tabI rfl (by omega) (by rw [t1]; rfl) ?_
    refine ur_push rfl ?_
    exact ur_ret rfl rfl (hQ _ ⟨_, rfl, ⟨by unfold nmc; omega, by omega, fun q => by omega⟩⟩ )
  · refine ur_tabI rfl (by omega) (by rw [t1]; rfl) ?_
    refine ur_push rfl ?_
    exact ur_ret rfl rfl (hQ _ ⟨_, rfl, ⟨by unfold nmc; omega, by omega, fun q => by omega⟩⟩ )

set_option maxRecDepth 20000 in
set_option maxHeartbeats 4000000 in
theorem st_X12_opens {d kc ks : Nat} {h0 : aH} {Q : Option aV → aH → Prop} (hO0 : OK h0)  (pre0 : 0 ≤ fI h0 20 ∧ fI h0 20 ≤ 120) (pre1 : 0 ≤ fI h0 22 ∧ fI h0 22 ≤ 6) (hQ : ∀ r h', (∃ q, r = some (.inl (bi q)) ∧ (q = true → fI h0 22 ≠ 6 ∧ fI h' 22 = fI h0 22 + 1 ∧ fI h' 20 = fI h0 20 + 1 ∧ fI h' 21 = fI h0 21) ∧ (q = false → fI h0 22 = 6 ∧ 0 ≤ fI h' 21 ∧ fI h' 20 = fI h0 20 ∧ (fI h0 21 < 0 → fI h' 21 = fI h0 20))) → OK h' → un [] h0 h' → (fI h' 19 = fI h0 19 ∧ fI h' 23 = fI h0 23) → Q r h') : uCall Mt (d + 2) 217 [(.inr (.inr (some 69)))] h0 kc ks Q := by
  have l_0 : ((0) : Int32).toInt = 0 := by decide
  have l_1 : ((1) : Int32).toInt = 1 := by decide
  have l_6 : ((6) : Int32).toInt = 6 := by decide
  refine uc_ink [some (.inr (.inr (some 69)))] mt_217 (Nat.le_of_ble_eq_true rfl) rfl ?_
  obtain ⟨fs1, hc2⟩ := hO0.mod
  obtain ⟨f3, p4, t5⟩ := mf_19 hO0 hc2
  have t6 := fI_of hc2 p4
  obtain ⟨f7, p8⟩ := mf_20 hO0 hc2
  have t9 := fI_of hc2 p8
  obtain ⟨f10, p11⟩ := mf_21 hO0 hc2
  have t12 := fI_of hc2 p11
  obtain ⟨f13, p14⟩ := mf_22 hO0 hc2
  have t15 := fI_of hc2 p14
  obtain ⟨f16, p17, t18⟩ := mf_23 hO0 hc2
  have t19 := fI_of hc2 p17
  refine ur_ldA rfl rfl ?_
  refine ur_get rfl hc2 p14 ?_
  have t20 : 0 ≤ f13.toInt ∧ f13.toInt ≤ 6 := by omega
  refine ur_push rfl ?_
  refine ur_if2 rfl (fun c21 => ?_) (fun c21 => ?_)
  · have t22 := ne_to c21
    refine ur_ldA rfl rfl ?_
    refine ur_dup rfl rfl ?_
    refine ur_get rfl hc2 p14 ?_
    have t23 : 0 ≤ f13.toInt ∧ f13.toInt ≤ 6 := by omega
    refine ur_push rfl ?_
    refine ur_binV rfl (fun x24 e25 => ?_)
    have z26 := any_r f13
    have t27 := ti_add e25 (by omega) (by omega)
    refine ur_putM (W := []) rfl hO0 hc2 (by decide) rfl (ms_22 (hO0.msh hc2)) (Or.inl rfl) (fun h29 hO29 hv29 d28 hc30 => ?_)
    have hu29 : un [] h0 h29 := hv29.mono (by decide)
    have t31 := fI_of hc30 (gs_ne p4 (by decide))
    have t32 := fI_of hc30 (gs_ne p8 (by decide))
    have t33 := fI_of hc30 (gs_ne p11 (by decide))
    have t34 := fI_of hc30 (gs_eq p14)
    have t35 := fI_of hc30 (gs_ne p17 (by decide))
    refine ur_ldA rfl rfl ?_
    refine ur_dup rfl rfl ?_
    refine ur_get rfl hc30 (gs_ne p8 (by decide)) ?_
    have t36 : 0 ≤ f7.toInt ∧ f7.toInt ≤ 120 := by omega
    refine ur_push rfl ?_
    refine ur_binV rfl (fun x37 e38 => ?_)
    have z39 := any_r f7
    have t40 := ti_add e38 (by omega) (by omega)
    refine ur_putM (W := []) rfl hO29 hc30 (by decide) rfl (ms_20 (hO29.msh hc30)) (Or.inl rfl) (fun h42 hO42 hv42 d41 hc43 => ?_)
    have hu42 : un [] h29 h42 := hv42.mono (by decide)
    have t44 := fI_of hc43 (gs_ne (gs_ne p4 (by decide)) (by decide))
    have t45 := fI_of hc43 (gs_eq (gs_ne p8 (by decide)))
    have t46 := fI_of hc43 (gs_ne (gs_ne p11 (by decide)) (by decide))
    have t47 := fI_of hc43 (gs_ne (gs_eq p14) (by decide))
    have t48 := fI_of hc43 (gs_ne (gs_ne p17 (by decide)) (by decide))
    refine ur_push rfl ?_
    exact ur_ret rfl rfl (hQ _ _ ⟨true, rfl, fun _ => by omega, fun e => absurd e (by decide)⟩ hO42 (hu29.tr hu42) (by omega))
  · have t49 := ne_no c21
    refine ur_ldA rfl rfl ?_
    refine ur_inl rfl (rcv_of hc2) (Nat.le_of_ble_eq_true rfl) (Nat.le_of_ble_eq_true rfl) (sf_X12_wrong hO0  (fun w50 h54 hr51 hO54 hv54 hp52 hp53 => ?_))
    have hu54 := hv54
    subst hr51
    show uRun _ (uCall Mt _) _ 13 (_, [], _, _, _)
    refine ur_push rfl ?_
    obtain ⟨fs55, hc56⟩ := hO54.mod
    obtain ⟨f57, p58, t59⟩ := mf_19 hO54 hc56
    have t60 := fI_of hc56 p58
    obtain ⟨f61, p62⟩ := mf_20 hO54 hc56
    have t63 := fI_of hc56 p62
    obtain ⟨f64, p65⟩ := mf_21 hO54 hc56
    have t66 := fI_of hc56 p65
    obtain ⟨f67, p68⟩ := mf_22 hO54 hc56
    have t69 := fI_of hc56 p68
    obtain ⟨f70, p71, t72⟩ := mf_23 hO54 hc56
    have t73 := fI_of hc56 p71
    have t74 := fI_keep (k := 19) hO0 hO54 hv54 rfl (by decide)
    exact ur_ret rfl rfl (hQ _ _ ⟨false, rfl, fun e => absurd e (by decide), fun _ => by omega⟩ hO54 hu54 (by omega))

set_option maxRecDepth 20000 in
set_option maxHeartbeats 4000000 in
theorem st_X12_number {d kc ks : Nat} {h0 : aH} {Q : Option aV → aH → Prop} {t : Int → Int} (hO0 : OK h0)  (pre0 : tS h0 t) (pre1 : 0 ≤ fI h0 20 ∧ fI h0 20 ≤ fI h0 19 ∧ fI h0 21 < 0 ∧ fI h0 23 ≤ fI h0 20) (pre2 : 0 ≤ fI h0 22 ∧ fI h0 22 ≤ 6) (pre3 : nmc (t (fI h0 20)) < 0 ∧ t (fI h0 20) ≠ 33 ∧ t (fI h0 20) ≠ 45 ∧ t (fI h0 20) ≠ 40) (hQ : ∀ r h', (r = none) → OK h' → un [83, 84] h0 h' → (fI h0 20 ≤ fI h' 20 ∧ fI h' 20 ≤ fI h' 19 ∧ fI h' 19 = fI h0 19) → (fI h0 23 ≤ fI h' 23 ∧ fI h' 23 - fI h' 20 ≤ fI h0 23 - fI h0 20 + 1) → (fI h' 21 < 0 → fI h' 23 - fI h' 20 ≤ fI h0 23 - fI h0 20 ∧ fI h' 22 = fI h0 22 ∧ fI h0 23 < fI h' 23) → (kp h0 h' (iL h0)) → (fI h' 21 < 0 → bk h' (iL h0) (iL h')) → (ROt t 0 (fI h0 22) (fI h0 20) (tkR h0) (fI h' 21) (fI h' 22) (fI h' 20) (tkR h')) → (fI h' 21 ≤ fI h' 19) → Q r h') : uCall Mt (d + 2) 218 [(.inr (.inr (some 69)))] h0 kc ks Q := by
  have l_0 : ((0) : Int32).toInt = 0 := by decide
  have l_1 : ((1) : Int32).toInt = 1 := by decide
  have l_6 : ((6) : Int32).toInt = 6 := by decide
  have l_10 : ((10) : Int32).toInt = 10 := by decide
  have l_48 : ((48) : Int32).toInt = 48 := by decide
  have l_57 : ((57) : Int32).toInt = 57 := by decide
  refine uc_ink [some (.inr (.inr (some 69))), none, none] mt_218 (Nat.le_of_ble_eq_true rfl) rfl ?_
  obtain ⟨fs1, hc2⟩ := hO0.mod
  obtain ⟨f3, p4, t5⟩ := mf_19 hO0 hc2
  have t6 := fI_of hc2 p4
  obtain ⟨f7, p8⟩ := mf_20 hO0 hc2
  have t9 := fI_of hc2 p8
  obtain ⟨f10, p11⟩ := mf_21 hO0 hc2
  have t12 := fI_of hc2 p11
  obtain ⟨f13, p14⟩ := mf_22 hO0 hc2
  have t15 := fI_of hc2 p14
  obtain ⟨f16, p17, t18⟩ := mf_23 hO0 hc2
  have t19 := fI_of hc2 p17
  refine ur_push rfl ?_
  refine ur_svIk [some (.inr (.inr (some 69))), some (.inl 0), none] rfl rfl ?_
  refine ur_push rfl ?_
  refine ur_svIk [some (.inr (.inr (some 69))), some (.inl 0), some (.inl 0)] rfl rfl ?_
  have L22 : ∀ (m23 : Nat) (x20 : Int32) (x21 : Int32) (h25 : aH) , OK h25 → un [83, 84] h0 h25 → ((0 ≤ x21.toInt ∧ x21.toInt ≤ 6) ∧ fI h25 19 = fI h0 19 ∧ fI h25 20 ≤ fI h25 19 ∧ fI h25 20 = fI h0 20 + x21.toInt ∧ fI h25 21 = fI h0 21 ∧ fI h25 22 = fI h0 22 ∧ fI h25 23 = fI h0 23) → (kp h0 h25 (iL h0)) → (nrX t (fI h0 20) x21.toInt (fI h25 20) x20.toInt) → ((7 - x21.toInt).toNat) < m23 → uRun oX12_number (uCall Mt (d + 1)) Q 4 ([some (.inr (.inr (some 69))), some (.inl x20), some (.inl x21)], [], h25, kc, ks) := by
    intro m23
    induction m23 with
    | zero => intro x20 x21 h25 hO25 hu25 iv28 px26 px27 mm29; omega
    | succ m23 ih24 =>
      intro x20 x21 h25 hO25 hu25 iv28 px26 px27 mm29
      refine ur_ldI rfl rfl ?_
      refine ur_push rfl ?_
      refine ur_if2 rfl (fun c30 => ?_) (fun c30 => ?_)
      · have t31 := le_to c30
        obtain ⟨fs32, hc33⟩ := hO25.mod
        obtain ⟨f34, p35, t36⟩ := mf_19 hO25 hc33
        have t37 := fI_of hc33 p35
        obtain ⟨f38, p39⟩ := mf_20 hO25 hc33
        have t40 := fI_of hc33 p39
        obtain ⟨f41, p42⟩ := mf_21 hO25 hc33
        have t43 := fI_of hc33 p42
        obtain ⟨f44, p45⟩ := mf_22 hO25 hc33
        have t46 := fI_of hc33 p45
        obtain ⟨f47, p48, t49⟩ := mf_23 hO25 hc33
        have t50 := fI_of hc33 p48
        have t51 := nbd_le px27.2 (by omega) (by omega)
        refine ur_ldI rfl rfl ?_
        refine ur_if1 rfl (fun c52 => ?_) (fun c52 => ?_)
        · have t53 := eq_to c52
          exfalso
          omega
        · have t54 := eq_no c52
          refine ur_ldA rfl rfl ?_
          refine ur_inl rfl (rcv_of hc33) (Nat.le_of_ble_eq_true rfl) (Nat.le_of_ble_eq_true rfl) (st_X12_look hO25 (pre0.un hO0 hO25 hu25 (by decide) (by decide)) (by omega) (fun w55 hr56 => ?_))
          obtain ⟨x57, rfl, t58⟩ := hr56
          show uRun _ (uCall Mt _) _ 61 (_, [(.inl x57)], _, _, _)
          refine ur_push rfl ?_
          refine ur_push rfl ?_
          refine ur_callv rfl rfl (Nat.le_of_ble_eq_true rfl) (Nat.le_of_ble_eq_true rfl) rfl (sp_in _ _ _ _ _) ?_
          refine ur_eqB rfl (fun c61 => ?_) (fun c61 => ?_)
          · have t62 := wi_noL c61 l_48 l_57
            refine ur_ldA rfl rfl ?_
            refine ur_push rfl ?_
            refine ur_ldI rfl rfl ?_
            refine ur_inl rfl (rcv_of hc33) (Nat.le_of_ble_eq_true rfl) (Nat.le_of_ble_eq_true rfl) (sf_X12_lay hO25 _ (by show 1 ≤ (1 : Int32).toInt ∧ (1 : Int32).toInt ≤ 124; omega) _ (by omega) (fun w63 h68 hr64 hO68 hv68 hp65 hp66 hp67 => ?_))
            have hu68 := hv68
            subst hr64
            show uRun _ (uCall Mt _) _ 81 (_, [], _, _, _)
            obtain ⟨fs69, hc70⟩ := hO68.mod
            obtain ⟨f71, p72, t73⟩ := mf_19 hO68 hc70
            have t74 := fI_of hc70 p72
            obtain ⟨f75, p76⟩ := mf_20 hO68 hc70
            have t77 := fI_of hc70 p76
            obtain ⟨f78, p79⟩ := mf_21 hO68 hc70
            have t80 := fI_of hc70 p79
            obtain ⟨f81, p82⟩ := mf_22 hO68 hc70
            have t83 := fI_of hc70 p82
            obtain ⟨f84, p85, t86⟩ := mf_23 hO68 hc70
            have t87 := fI_of hc70 p85
            have t88 := fI_keep (k := 19) hO25 hO68 hv68 rfl (by decide)
            exact ur_ret0 rfl (hQ _ _ rfl hO68 (hu25.tr hu68) (by omega) (by omega) (by omega) (kp.tr (n := (iL h0)) px26 hp66 (by unfold iL; omega)) (fun q => (bk_cast (bk_push hp67 (by omega) rfl rfl) (by unfold iL; omega) (by unfold iL; omega))) (ROt.cast (ROt.nm (o := fI h0 22) (p := fI h0 20) (p' := fI h25 20) (f' := fI h68 21) (o' := fI h68 22) px27 (by omega) (Or.inl (by omega)) (by omega) (by omega) (tkR_2 (tkR_lay hp66 hp67 (by omega) (by omega)) (tkR_kp px26 (by omega)) l_1) rfl (by omega) (Or.inr ⟨dg_no t58.1 (by omega), by omega⟩)) (by omega) rfl) (by omega))
          · have t89 := wi_toL c61 l_48 l_57
            refine ur_ldA rfl rfl ?_
            refine ur_inl rfl (rcv_of hc33) (Nat.le_of_ble_eq_true rfl) (Nat.le_of_ble_eq_true rfl) (sf_X12_wrong hO25  (fun w90 h94 hr91 hO94 hv94 hp92 hp93 => ?_))
            have hu94 : un [83, 84] h25 h94 := hv94.mono (by decide)
            subst hr91
            show uRun _ (uCall Mt _) _ 75 (_, [], _, _, _)
            refine ur_ldA rfl rfl ?_
            refine ur_push rfl ?_
            refine ur_ldI rfl rfl ?_
            obtain ⟨fs95, hc96⟩ := hO94.mod
            obtain ⟨f97, p98, t99⟩ := mf_19 hO94 hc96
            have t100 := fI_of hc96 p98
            obtain ⟨f101, p102⟩ := mf_20 hO94 hc96
            have t103 := fI_of hc96 p102
            obtain ⟨f104, p105⟩ := mf_21 hO94 hc96
            have t106 := fI_of hc96 p105
            obtain ⟨f107, p108⟩ := mf_22 hO94 hc96
            have t109 := fI_of hc96 p108
            obtain ⟨f110, p111, t112⟩ := mf_23 hO94 hc96
            have t113 := fI_of hc96 p111
            have t114 := fI_keep (k := 19) hO25 hO94 hv94 rfl (by decide)
            refine ur_inl rfl (rcv_of hc96) (Nat.le_of_ble_eq_true rfl) (Nat.le_of_ble_eq_true rfl) (sf_X12_lay hO94 _ (by show 1 ≤ (1 : Int32).toInt ∧ (1 : Int32).toInt ≤ 124; omega) _ (by omega) (fun w115 h120 hr116 hO120 hv120 hp117 hp118 hp119 => ?_))
            have hu120 := hv120
            subst hr116
            show uRun _ (uCall Mt _) _ 81 (_, [], _, _, _)
            obtain ⟨fs121, hc122⟩ := hO120.mod
            obtain ⟨f123, p124, t125⟩ := mf_19 hO120 hc122
            have t126 := fI_of hc122 p124
            obtain ⟨f127, p128⟩ := mf_20 hO120 hc122
            have t129 := fI_of hc122 p128
            obtain ⟨f130, p131⟩ := mf_21 hO120 hc122
            have t132 := fI_of hc122 p131
            obtain ⟨f133, p134⟩ := mf_22 hO120 hc122
            have t135 := fI_of hc122 p134
            obtain ⟨f136, p137, t138⟩ := mf_23 hO120 hc122
            have t139 := fI_of hc122 p137
            have t140 := fI_keep (k := 19) hO94 hO120 hv120 rfl (by decide)
            exact ur_ret0 rfl (hQ _ _ rfl hO120 (hu25.tr (hu94.tr hu120)) (by omega) (by omega) (by omega) (kp.tr (n := (iL h0)) (kp.tr (n := (iL h0)) px26 (kp_un hO25 hv94 (by decide) (by decide) (iL h0)) (Nat.le_refl _)) hp118 (by unfold iL; omega)) (fun q => (bk_cast (bk_push hp119 (by omega) rfl rfl) (by unfold iL; omega) (by unfold iL; omega))) (ROt.cast (ROt.nm (o := fI h0 22) (p := fI h0 20) (p' := fI h25 20) (f' := fI h120 21) (o' := fI h120 22) px27 (by omega) (Or.inl (by omega)) (by omega) (by omega) (tkR_2 (tkR_lay hp118 hp119 (by omega) (by omega)) ((tkR_kp (kp_un hO25 hv94 (by decide) (by decide) (iL h25)) (by omega)).trans (tkR_kp px26 (by omega))) l_1) rfl (by omega) (Or.inl ⟨tS.dg pre0 t58.1 (by omega), by omega, by omega⟩)) (by omega) rfl) (by omega))
      · have t141 := le_no c30
        obtain ⟨fs142, hc143⟩ := hO25.mod
        obtain ⟨f144, p145, t146⟩ := mf_19 hO25 hc143
        have t147 := fI_of hc143 p145
        obtain ⟨f148, p149⟩ := mf_20 hO25 hc143
        have t150 := fI_of hc143 p149
        obtain ⟨f151, p152⟩ := mf_21 hO25 hc143
        have t153 := fI_of hc143 p152
        obtain ⟨f154, p155⟩ := mf_22 hO25 hc143
        have t156 := fI_of hc143 p155
        obtain ⟨f157, p158, t159⟩ := mf_23 hO25 hc143
        have t160 := fI_of hc143 p158
        have t161 := nbd_le px27.2 (by omega) (by omega)
        refine ur_ldA rfl rfl ?_
        refine ur_inl rfl (rcv_of hc143) (Nat.le_of_ble_eq_true rfl) (Nat.le_of_ble_eq_true rfl) (st_X12_look hO25 (pre0.un hO0 hO25 hu25 (by decide) (by decide)) (by omega) (fun w162 hr163 => ?_))
        obtain ⟨x164, rfl, t165⟩ := hr163
        show uRun _ (uCall Mt _) _ 14 (_, [(.inl x164)], _, _, _)
        refine ur_push rfl ?_
        refine ur_push rfl ?_
        refine ur_callv rfl rfl (Nat.le_of_ble_eq_true rfl) (Nat.le_of_ble_eq_true rfl) rfl (sp_in _ _ _ _ _) ?_
        refine ur_eqB rfl (fun c168 => ?_) (fun c168 => ?_)
        · have t169 := wi_noL c168 l_48 l_57
          have t170 := nbd_le px27.2 (by omega) (by omega)
          refine ur_ldI rfl rfl ?_
          refine ur_if1 rfl (fun c171 => ?_) (fun c171 => ?_)
          · have t172 := eq_to c171
            refine ur_ldA rfl rfl ?_
            refine ur_inl rfl (rcv_of hc143) (Nat.le_of_ble_eq_true rfl) (Nat.le_of_ble_eq_true rfl) (sf_X12_wrong hO25  (fun w173 h177 hr174 hO177 hv177 hp175 hp176 => ?_))
            have hu177 : un [83, 84] h25 h177 := hv177.mono (by decide)
            subst hr174
            show uRun _ (uCall Mt _) _ 75 (_, [], _, _, _)
            refine ur_ldA rfl rfl ?_
            refine ur_push rfl ?_
            refine ur_ldI rfl rfl ?_
            obtain ⟨fs178, hc179⟩ := hO177.mod
            obtain ⟨f180, p181, t182⟩ := mf_19 hO177 hc179
            have t183 := fI_of hc179 p181
            obtain ⟨f184, p185⟩ := mf_20 hO177 hc179
            have t186 := fI_of hc179 p185
            obtain ⟨f187, p188⟩ := mf_21 hO177 hc179
            have t189 := fI_of hc179 p188
            obtain ⟨f190, p191⟩ := mf_22 hO177 hc179
            have t192 := fI_of hc179 p191
            obtain ⟨f193, p194, t195⟩ := mf_23 hO177 hc179
            have t196 := fI_of hc179 p194
            have t197 := fI_keep (k := 19) hO25 hO177 hv177 rfl (by decide)
            refine ur_inl rfl (rcv_of hc179) (Nat.le_of_ble_eq_true rfl) (Nat.le_of_ble_eq_true rfl) (sf_X12_lay hO177 _ (by show 1 ≤ (1 : Int32).toInt ∧ (1 : Int32).toInt ≤ 124; omega) _ (by omega) (fun w198 h203 hr199 hO203 hv203 hp200 hp201 hp202 => ?_))
            have hu203 := hv203
            subst hr199
            show uRun _ (uCall Mt _) _ 81 (_, [], _, _, _)
            obtain ⟨fs204, hc205⟩ := hO203.mod
            obtain ⟨f206, p207, t208⟩ := mf_19 hO203 hc205
            have t209 := fI_of hc205 p207
            obtain ⟨f210, p211⟩ := mf_20 hO203 hc205
            have t212 := fI_of hc205 p211
            obtain ⟨f213, p214⟩ := mf_21 hO203 hc205
            have t215 := fI_of hc205 p214
            obtain ⟨f216, p217⟩ := mf_22 hO203 hc205
            have t218 := fI_of hc205 p217
            obtain ⟨f219, p220, t221⟩ := mf_23 hO203 hc205
            have t222 := fI_of hc205 p220
            have t223 := fI_keep (k := 19) hO177 hO203 hv203 rfl (by decide)
            have t224 : t (fI h0 20) = t (fI h25 20) := congrArg t (by omega)
            exact ur_ret0 rfl (hQ _ _ rfl hO203 (hu25.tr (hu177.tr hu203)) (by omega) (by omega) (by omega) (kp.tr (n := (iL h0)) (kp.tr (n := (iL h0)) px26 (kp_un hO25 hv177 (by decide) (by decide) (iL h0)) (Nat.le_refl _)) hp201 (by unfold iL; omega)) (fun q => (bk_cast (bk_push hp202 (by omega) rfl rfl) (by unfold iL; omega) (by unfold iL; omega))) (ROt.no (by rw [t224]; exact dg_no t165.1 (by omega)) (by omega) (by omega) (by omega) (by omega)) (by omega))
          · have t225 := eq_no c171
            refine ur_ldA rfl rfl ?_
            refine ur_inl rfl (rcv_of hc143) (Nat.le_of_ble_eq_true rfl) (Nat.le_of_ble_eq_true rfl) (st_X12_look hO25 (pre0.un hO0 hO25 hu25 (by decide) (by decide)) (by omega) (fun w226 hr227 => ?_))
            obtain ⟨x228, rfl, t229⟩ := hr227
            show uRun _ (uCall Mt _) _ 61 (_, [(.inl x228)], _, _, _)
            refine ur_push rfl ?_
            refine ur_push rfl ?_
            refine ur_callv rfl rfl (Nat.le_of_ble_eq_true rfl) (Nat.le_of_ble_eq_true rfl) rfl (sp_in _ _ _ _ _) ?_
            refine ur_eqB rfl (fun c232 => ?_) (fun c232 => ?_)
            · have t233 := wi_noL c232 l_48 l_57
              refine ur_ldA rfl rfl ?_
              refine ur_push rfl ?_
              refine ur_ldI rfl rfl ?_
              refine ur_inl rfl (rcv_of hc143) (Nat.le_of_ble_eq_true rfl) (Nat.le_of_ble_eq_true rfl) (sf_X12_lay hO25 _ (by show 1 ≤ (1 : Int32).toInt ∧ (1 : Int32).toInt ≤ 124; omega) _ (by omega) (fun w234 h239 hr235 hO239 hv239 hp236 hp237 hp238 => ?_))
              have hu239 := hv239
              subst hr235
              show uRun _ (uCall Mt _) _ 81 (_, [], _, _, _)
              obtain ⟨fs240, hc241⟩ := hO239.mod
              obtain ⟨f242, p243, t244⟩ := mf_19 hO239 hc241
              have t245 := fI_of hc241 p243
              obtain ⟨f246, p247⟩ := mf_20 hO239 hc241
              have t248 := fI_of hc241 p247
              obtain ⟨f249, p250⟩ := mf_21 hO239 hc241
              have t251 := fI_of hc241 p250
              obtain ⟨f252, p253⟩ := mf_22 hO239 hc241
              have t254 := fI_of hc241 p253
              obtain ⟨f255, p256, t257⟩ := mf_23 hO239 hc241
              have t258 := fI_of hc241 p256
              have t259 := fI_keep (k := 19) hO25 hO239 hv239 rfl (by decide)
              exact ur_ret0 rfl (hQ _ _ rfl hO239 (hu25.tr hu239) (by omega) (by omega) (by omega) (kp.tr (n := (iL h0)) px26 hp237 (by unfold iL; omega)) (fun q => (bk_cast (bk_push hp238 (by omega) rfl rfl) (by unfold iL; omega) (by unfold iL; omega))) (ROt.cast (ROt.nm (o := fI h0 22) (p := fI h0 20) (p' := fI h25 20) (f' := fI h239 21) (o' := fI h239 22) px27 (by omega) (Or.inr (dg_no t165.1 (by omega))) (by omega) (by omega) (tkR_2 (tkR_lay hp237 hp238 (by omega) (by omega)) (tkR_kp px26 (by omega)) l_1) rfl (by omega) (Or.inr ⟨dg_no t229.1 (by omega), by omega⟩)) (by omega) rfl) (by omega))
            · have t260 := wi_toL c232 l_48 l_57
              refine ur_ldA rfl rfl ?_
              refine ur_inl rfl (rcv_of hc143) (Nat.le_of_ble_eq_true rfl) (Nat.le_of_ble_eq_true rfl) (sf_X12_wrong hO25  (fun w261 h265 hr262 hO265 hv265 hp263 hp264 => ?_))
              have hu265 : un [83, 84] h25 h265 := hv265.mono (by decide)
              subst hr262
              show uRun _ (uCall Mt _) _ 75 (_, [], _, _, _)
              refine ur_ldA rfl rfl ?_
              refine ur_push rfl ?_
              refine ur_ldI rfl rfl ?_
              obtain ⟨fs266, hc267⟩ := hO265.mod
              obtain ⟨f268, p269, t270⟩ := mf_19 hO265 hc267
              have t271 := fI_of hc267 p269
              obtain ⟨f272, p273⟩ := mf_20 hO265 hc267
              have t274 := fI_of hc267 p273
              obtain ⟨f275, p276⟩ := mf_21 hO265 hc267
              have t277 := fI_of hc267 p276
              obtain ⟨f278, p279⟩ := mf_22 hO265 hc267
              have t280 := fI_of hc267 p279
              obtain ⟨f281, p282, t283⟩ := mf_23 hO265 hc267
              have t284 := fI_of hc267 p282
              have t285 := fI_keep (k := 19) hO25 hO265 hv265 rfl (by decide)
              refine ur_inl rfl (rcv_of hc267) (Nat.le_of_ble_eq_true rfl) (Nat.le_of_ble_eq_true rfl) (sf_X12_lay hO265 _ (by show 1 ≤ (1 : Int32).toInt ∧ (1 : Int32).toInt ≤ 124; omega) _ (by omega) (fun w286 h291 hr287 hO291 hv291 hp288 hp289 hp290 => ?_))
              have hu291 := hv291
              subst hr287
              show uRun _ (uCall Mt _) _ 81 (_, [], _, _, _)
              obtain ⟨fs292, hc293⟩ := hO291.mod
              obtain ⟨f294, p295, t296⟩ := mf_19 hO291 hc293
              have t297 := fI_of hc293 p295
              obtain ⟨f298, p299⟩ := mf_20 hO291 hc293
              have t300 := fI_of hc293 p299
              obtain ⟨f301, p302⟩ := mf_21 hO291 hc293
              have t303 := fI_of hc293 p302
              obtain ⟨f304, p305⟩ := mf_22 hO291 hc293
              have t306 := fI_of hc293 p305
              obtain ⟨f307, p308, t309⟩ := mf_23 hO291 hc293
              have t310 := fI_of hc293 p308
              have t311 := fI_keep (k := 19) hO265 hO291 hv291 rfl (by decide)
              exact ur_ret0 rfl (hQ _ _ rfl hO291 (hu25.tr (hu265.tr hu291)) (by omega) (by omega) (by omega) (kp.tr (n := (iL h0)) (kp.tr (n := (iL h0)) px26 (kp_un hO25 hv265 (by decide) (by decide) (iL h0)) (Nat.le_refl _)) hp289 (by unfold iL; omega)) (fun q => (bk_cast (bk_push hp290 (by omega) rfl rfl) (by unfold iL; omega) (by unfold iL; omega))) (ROt.cast (ROt.nm (o := fI h0 22) (p := fI h0 20) (p' := fI h25 20) (f' := fI h291 21) (o' := fI h291 22) px27 (by omega) (Or.inr (dg_no t165.1 (by omega))) (by omega) (by omega) (tkR_2 (tkR_lay hp289 hp290 (by omega) (by omega)) ((tkR_kp (kp_un hO25 hv265 (by decide) (by decide) (iL h25)) (by omega)).trans (tkR_kp px26 (by omega))) l_1) rfl (by omega) (Or.inl ⟨tS.dg pre0 t229.1 (by omega), by omega, by omega⟩)) (by omega) rfl) (by omega))
        · have t312 := wi_toL c168 l_48 l_57
          have t313 : 0 ≤ x20.toInt ∧ x20.toInt ≤ 99999 := by omega
          refine ur_push rfl ?_
          refine ur_ldI rfl rfl ?_
          refine ur_binV rfl (fun x314 e315 => ?_)
          have z316 := any_r x20
          have t317 := ti_mulR e315 l_10 (by omega) (by omega)
          refine ur_ldA rfl rfl ?_
          refine ur_inl rfl (rcv_of hc143) (Nat.le_of_ble_eq_true rfl) (Nat.le_of_ble_eq_true rfl) (st_X12_look hO25 (pre0.un hO0 hO25 hu25 (by decide) (by decide)) (by omega) (fun w318 hr319 => ?_))
          obtain ⟨x320, rfl, t321⟩ := hr319
          show uRun _ (uCall Mt _) _ 32 (_, [(.inl x320), (.inl x314)], _, _, _)
          refine ur_binV rfl (fun x322 e323 => ?_)
          have z324 := any_r x314
          have z325 := any_r x320
          have t326 := ti_add e323 (by omega) (by omega)
          refine ur_push rfl ?_
          refine ur_binV rfl (fun x327 e328 => ?_)
          have z329 := any_r x322
          have t330 := ti_sub e328 (by omega) (by omega)
          refine ur_svIk [some (.inr (.inr (some 69))), some (.inl x327), some (.inl x21)] rfl rfl ?_
          refine ur_incV (fun z => [some (.inr (.inr (some 69))), some (.inl x327), some (.inl z)]) rfl rfl (fun _ => rfl) (fun x331 e332 => ?_)
          have z333 := any_r x21
          have t334 := ti_add e332 (by omega) (by omega)
          refine ur_ldA rfl rfl ?_
          refine ur_dup rfl rfl ?_
          refine ur_get rfl hc143 p149 ?_
          have t335 : 0 ≤ f148.toInt ∧ f148.toInt ≤ 120 := by omega
          refine ur_push rfl ?_
          refine ur_binV rfl (fun x336 e337 => ?_)
          have z338 := any_r f148
          have t339 := ti_add e337 (by omega) (by omega)
          refine ur_putM (W := []) rfl hO25 hc143 (by decide) rfl (ms_20 (hO25.msh hc143)) (Or.inl rfl) (fun h341 hO341 hv341 d340 hc342 => ?_)
          have hu341 : un [83, 84] h25 h341 := hv341.mono (by decide)
          have t343 := fI_of hc342 (gs_ne p145 (by decide))
          have t344 := fI_of hc342 (gs_eq p149)
          have t345 := fI_of hc342 (gs_ne p152 (by decide))
          have t346 := fI_of hc342 (gs_ne p155 (by decide))
          have t347 := fI_of hc342 (gs_ne p158 (by decide))
          refine ur_go rfl ?_
          have z348 := any_r x331
          exact ih24 x327 x331 _ hO341 (hu25.tr hu341) (by omega) (kp.tr (n := (iL h0)) px26 (kp_un hO25 hv341 (by decide) (by decide) (iL h0)) (Nat.le_refl _)) (nrX_s (c := x320.toInt) px27 (by omega) (tS.c pre0 t321.1 (by omega)) (by omega) (by omega) (by omega) (by omega)) (by omega)
  exact L22 _ 0 0 _ hO0 un.rf (by omega) (kp.rf (n := (iL h0))) (nrX_0 (by omega) (by omega) (by omega)) (Nat.lt_succ_self _)

set_option maxRecDepth 20000 in
set_option maxHeartbeats 4000000 in
theorem st_X12_product {d kc ks : Nat} {h0 : aH} {Q : Option aV → aH → Prop} {t : Int → Int} (n : Nat) (rec : ∀ {kc ks : Nat} {h0 : aH} {Q : Option aV → aH → Prop}, OK h0 → (tS h0 t) → (0 ≤ fI h0 20 ∧ fI h0 20 ≤ fI h0 19 ∧ fI h0 21 < 0 ∧ fI h0 23 ≤ fI h0 20) → (0 ≤ fI h0 22 ∧ fI h0 22 ≤ 6 ∧ 6 ≤ fI h0 22 + (n : Int)) → (∀ r h', (r = none) → OK h' → un [83, 84] h0 h' → (fI h0 20 ≤ fI h' 20 ∧ fI h' 20 ≤ fI h' 19 ∧ fI h' 19 = fI h0 19) → (fI h0 23 ≤ fI h' 23 ∧ fI h' 23 - fI h' 20 ≤ fI h0 23 - fI h0 20 + 1) → (fI h' 21 < 0 → fI h' 23 - fI h' 20 ≤ fI h0 23 - fI h0 20 ∧ fI h' 22 = fI h0 22 ∧ fI h0 23 < fI h' 23) → (kp h0 h' (iL h0)) → (fI h' 21 < 0 → bk h' (iL h0) (iL h')) → (ROt t 0 (fI h0 22) (fI h0 20) (tkR h0) (fI h' 21) (fI h' 22) (fI h' 20) (tkR h')) → (fI h' 21 ≤ fI h' 19) → Q r h') → uCall Mt (d + 4) 219 [(.inr (.inr (some 69)))] h0 kc ks Q) (hO0 : OK h0)  (pre0 : tS h0 t) (pre1 : 0 ≤ fI h0 20 ∧ fI h0 20 ≤ fI h0 19 ∧ fI h0 21 < 0 ∧ fI h0 23 ≤ fI h0 20) (pre2 : 0 ≤ fI h0 22 ∧ fI h0 22 ≤ 6 ∧ 6 ≤ fI h0 22 + (n : Int)) (hQ : ∀ r h', (r = none) → OK h' → un [83, 84] h0 h' → (fI h0 20 ≤ fI h' 20 ∧ fI h' 20 ≤ fI h' 19 ∧ fI h' 19 = fI h0 19) → (fI h0 23 ≤ fI h' 23 ∧ fI h' 23 - fI h' 20 ≤ fI h0 23 - fI h0 20 + 1) → (fI h' 21 < 0 → fI h' 23 - fI h' 20 ≤ fI h0 23 - fI h0 20 ∧ fI h' 22 = fI h0 22 ∧ fI h0 23 < fI h' 23) → (kp h0 h' (iL h0)) → (fI h' 21 < 0 → bk h' (iL h0) (iL h')) → (ROt t 1 (fI h0 22) (fI h0 20) (tkR h0) (fI h' 21) (fI h' 22) (fI h' 20) (tkR h')) → (fI h' 21 ≤ fI h' 19) → Q r h') : uCall Mt (d + 5) 220 [(.inr (.inr (some 69)))] h0 kc ks Q := by
  have l_0 : ((0) : Int32).toInt = 0 := by decide
  have l_1 : ((1) : Int32).toInt = 1 := by decide
  have l_37 : ((37) : Int32).toInt = 37 := by decide
  have l_42 : ((42) : Int32).toInt = 42 := by decide
  have l_47 : ((47) : Int32).toInt = 47 := by decide
  refine uc_ink [some (.inr (.inr (some 69))), none] mt_220 (Nat.le_of_ble_eq_true rfl) rfl ?_
  obtain ⟨fs1, hc2⟩ := hO0.mod
  obtain ⟨f3, p4, t5⟩ := mf_19 hO0 hc2
  have t6 := fI_of hc2 p4
  obtain ⟨f7, p8⟩ := mf_20 hO0 hc2
  have t9 := fI_of hc2 p8
  obtain ⟨f10, p11⟩ := mf_21 hO0 hc2
  have t12 := fI_of hc2 p11
  obtain ⟨f13, p14⟩ := mf_22 hO0 hc2
  have t15 := fI_of hc2 p14
  obtain ⟨f16, p17, t18⟩ := mf_23 hO0 hc2
  have t19 := fI_of hc2 p17
  refine ur_ldA rfl rfl ?_
  refine ur_inl rfl (rcv_of hc2) (Nat.le_of_ble_eq_true rfl) (Nat.le_of_ble_eq_true rfl) (rec hO0 pre0 (by omega) (by omega) (fun w20 h29 hr21 hO29 hv29 hp22 hp23 hp24 hp25 hp26 hp27 hp28 => ?_))
  have hu29 := hv29
  subst hr21
  show uRun _ (uCall Mt _) _ 4 (_, [], _, _, _)
  obtain ⟨fs34, hc35⟩ := hO29.mod
  obtain ⟨f36, p37, t38⟩ := mf_19 hO29 hc35
  have t39 := fI_of hc35 p37
  obtain ⟨f40, p41⟩ := mf_20 hO29 hc35
  have t42 := fI_of hc35 p41
  obtain ⟨f43, p44⟩ := mf_21 hO29 hc35
  have t45 := fI_of hc35 p44
  obtain ⟨f46, p47⟩ := mf_22 hO29 hc35
  have t48 := fI_of hc35 p47
  obtain ⟨f49, p50, t51⟩ := mf_23 hO29 hc35
  have t52 := fI_of hc35 p50
  have L31 : ∀ (m32 : Nat) (u30 : Option aV) (h53 : aH) , OK h53 → un [83, 84] h29 h53 → ((fI h0 20 ≤ fI h53 20 ∧ fI h53 20 ≤ fI h53 19 ∧ fI h53 19 = fI h0 19) ∧ (fI h0 23 ≤ fI h53 23 ∧ fI h53 23 - fI h53 20 ≤ fI h0 23 - fI h0 20 + 1) ∧ (fI h53 21 < 0 → fI h53 23 - fI h53 20 ≤ fI h0 23 - fI h0 20 ∧ fI h53 22 = fI h0 22 ∧ fI h0 23 < fI h53 23) ∧ (fI h53 21 ≤ fI h53 19)) → (kp h0 h53 (iL h0)) → (fI h53 21 < 0 → bk h53 (iL h0) (iL h53)) → (LOt t 1 (fI h0 22) (fI h0 20) (tkR h0) (fI h53 21) (fI h53 22) (fI h53 20) (tkR h53)) → ((121 - fI h53 20).toNat) < m32 → uRun oX12_product (uCall Mt (d + 4)) Q 4 ([some (.inr (.inr (some 69))), u30], [], h53, kc, ks) := by
    intro m32
    induction m32 with
    | zero => intro u30 h53 hO53 hu53 iv57 px54 px55 px56 mm58; omega
    | succ m32 ih33 =>
      intro u30 h53 hO53 hu53 iv57 px54 px55 px56 mm58
      obtain ⟨fs59, hc60⟩ := hO53.mod
      obtain ⟨f61, p62, t63⟩ := mf_19 hO53 hc60
      have t64 := fI_of hc60 p62
      obtain ⟨f65, p66⟩ := mf_20 hO53 hc60
      have t67 := fI_of hc60 p66
      obtain ⟨f68, p69⟩ := mf_21 hO53 hc60
      have t70 := fI_of hc60 p69
      obtain ⟨f71, p72⟩ := mf_22 hO53 hc60
      have t73 := fI_of hc60 p72
      obtain ⟨f74, p75, t76⟩ := mf_23 hO53 hc60
      have t77 := fI_of hc60 p75
      refine ur_ldA rfl rfl ?_
      refine ur_get rfl hc60 p69 ?_
      refine ur_if1 rfl (fun c78 => ?_) (fun c78 => ?_)
      · have t79 := le_to c78
        have t80 := fI_keep (k := 19) hO0 hO29 hv29 rfl (by decide)
        exact ur_ret0 rfl (hQ _ _ rfl hO53 (hu29.tr hu53) (by omega) (by omega) (by omega) px54 (fun q => (bk_cast (px55 (by omega)) (by unfold iL; omega) (by unfold iL; omega))) (LOt.done (LOt.cast px56 (by omega) rfl) (by decide) (by decide) (fun q => by omega)) (by omega))
      · have t81 := le_no c78
        refine ur_ldA rfl rfl ?_
        have t82 := fI_keep (k := 19) hO0 hO29 hv29 rfl (by decide)
        refine ur_inl rfl (rcv_of hc60) (Nat.le_of_ble_eq_true rfl) (Nat.le_of_ble_eq_true rfl) (st_X12_look hO53 ((pre0.un hO0 hO29 hv29 (by decide) (by decide)).un hO29 hO53 hu53 (by decide) (by decide)) (by omega) (fun w83 hr84 => ?_))
        obtain ⟨x85, rfl, t86⟩ := hr84
        show uRun _ (uCall Mt _) _ 15 (_, [(.inl x85)], _, _, _)
        refine ur_push rfl ?_
        refine ur_if2 rfl (fun c87 => ?_) (fun c87 => ?_)
        · have t88 := eq_to c87
          refine ur_ldA rfl rfl ?_
          refine ur_inl rfl (rcv_of hc60) (Nat.le_of_ble_eq_true rfl) (Nat.le_of_ble_eq_true rfl) (st_X12_look hO53 ((pre0.un hO0 hO29 hv29 (by decide) (by decide)).un hO29 hO53 hu53 (by decide) (by decide)) (by omega) (fun w89 hr90 => ?_))
          obtain ⟨x91, rfl, t92⟩ := hr90
          show uRun _ (uCall Mt _) _ 42 (_, [(.inl x91)], _, _, _)
          refine ur_svIk [some (.inr (.inr (some 69))), some (.inl x91)] rfl rfl ?_
          refine ur_ldA rfl rfl ?_
          refine ur_dup rfl rfl ?_
          refine ur_get rfl hc60 p66 ?_
          have t93 : 0 ≤ f65.toInt ∧ f65.toInt ≤ 120 := by omega
          refine ur_push rfl ?_
          refine ur_binV rfl (fun x94 e95 => ?_)
          have z96 := any_r f65
          have t97 := ti_add e95 (by omega) (by omega)
          refine ur_putM (W := []) rfl hO53 hc60 (by decide) rfl (ms_20 (hO53.msh hc60)) (Or.inl rfl) (fun h99 hO99 hv99 d98 hc100 => ?_)
          have hu99 : un [83, 84] h53 h99 := hv99.mono (by decide)
          have t101 := fI_of hc100 (gs_ne p62 (by decide))
          have t102 := fI_of hc100 (gs_eq p66)
          have t103 := fI_of hc100 (gs_ne p69 (by decide))
          have t104 := fI_of hc100 (gs_ne p72 (by decide))
          have t105 := fI_of hc100 (gs_ne p75 (by decide))
          refine ur_ldA rfl rfl ?_
          refine ur_inl rfl (rcv_of hc100) (Nat.le_of_ble_eq_true rfl) (Nat.le_of_ble_eq_true rfl) (rec hO99 (((pre0.un hO0 hO29 hv29 (by decide) (by decide)).un hO29 hO53 hu53 (by decide) (by decide)).un hO53 hO99 hv99 (by decide) (by decide)) (by omega) (by omega) (fun w106 h115 hr107 hO115 hv115 hp108 hp109 hp110 hp111 hp112 hp113 hp114 => ?_))
          have hu115 := hv115
          subst hr107
          show uRun _ (uCall Mt _) _ 57 (_, [], _, _, _)
          refine ur_ldA rfl rfl ?_
          refine ur_ldI rfl rfl ?_
          refine ur_push rfl ?_
          obtain ⟨fs116, hc117⟩ := hO115.mod
          obtain ⟨f118, p119, t120⟩ := mf_19 hO115 hc117
          have t121 := fI_of hc117 p119
          obtain ⟨f122, p123⟩ := mf_20 hO115 hc117
          have t124 := fI_of hc117 p123
          obtain ⟨f125, p126⟩ := mf_21 hO115 hc117
          have t127 := fI_of hc117 p126
          obtain ⟨f128, p129⟩ := mf_22 hO115 hc117
          have t130 := fI_of hc117 p129
          obtain ⟨f131, p132, t133⟩ := mf_23 hO115 hc117
          have t134 := fI_of hc117 p132
          have t135 := fI_keep (k := 19) hO99 hO115 hv115 rfl (by decide)
          refine ur_inl rfl (rcv_of hc117) (Nat.le_of_ble_eq_true rfl) (Nat.le_of_ble_eq_true rfl) (sf_X12_lay hO115 _ (by show 1 ≤ x91.toInt ∧ x91.toInt ≤ 124; omega) _ (by omega) (fun w136 h141 hr137 hO141 hv141 hp138 hp139 hp140 => ?_))
          have hu141 := hv141
          subst hr137
          show uRun _ (uCall Mt _) _ 63 (_, [], _, _, _)
          refine ur_go rfl ?_
          obtain ⟨fs142, hc143⟩ := hO141.mod
          obtain ⟨f144, p145, t146⟩ := mf_19 hO141 hc143
          have t147 := fI_of hc143 p145
          obtain ⟨f148, p149⟩ := mf_20 hO141 hc143
          have t150 := fI_of hc143 p149
          obtain ⟨f151, p152⟩ := mf_21 hO141 hc143
          have t153 := fI_of hc143 p152
          obtain ⟨f154, p155⟩ := mf_22 hO141 hc143
          have t156 := fI_of hc143 p155
          obtain ⟨f157, p158, t159⟩ := mf_23 hO141 hc143
          have t160 := fI_of hc143 p158
          exact ih33 _ _ hO141 (hu53.tr (hu99.tr (hu115.tr hu141))) (by omega) (kp.tr (n := (iL h0)) (kp.tr (n := (iL h0)) (kp.tr (n := (iL h0)) px54 (kp_un hO53 hv99 (by decide) (by decide) (iL h0)) (Nat.le_refl _)) hp111 (by unfold iL; omega)) hp139 (by unfold iL; omega)) (fun q => (bk_cast (bk_bin (px55 (by omega)) (kp.tr (n := (iL h53)) (kp.tr (n := (iL h53)) kp.rf (kp_un hO53 hv99 (by decide) (by decide) (iL h53)) (Nat.le_refl _)) hp111 (by unfold iL; omega)) (hp112 (by omega)) (by unfold iL; omega) (kp.tr (n := (iL h115)) kp.rf hp139 (by unfold iL; omega)) hp140 (by unfold iL; omega) (by omega) rfl (by unfold iL; omega) (by unfold iL; omega)) (by unfold iL; omega) (by unfold iL; omega))) (LOt.op (c := 42) (f1 := fI h53 21) (o1 := fI h53 22) (p1 := fI h53 20) (LOt.cast px56 (by omega) rfl) (by omega) (tS.cl pre0 t86.1 (by omega) (by decide)) (by unfold iop; decide) (by decide) (by decide) (by decide) hp113 rfl (by omega) (by omega) (tkR_kp (kp_un hO53 hv99 (by decide) (by decide) (iL h53)) (by omega)) (tkR_2 (tkR_lay hp139 hp140 (by omega) (by omega)) rfl (by omega)) l_0 (by omega)) (by omega)
        · have t161 := eq_no c87
          refine ur_ldA rfl rfl ?_
          refine ur_inl rfl (rcv_of hc60) (Nat.le_of_ble_eq_true rfl) (Nat.le_of_ble_eq_true rfl) (st_X12_look hO53 ((pre0.un hO0 hO29 hv29 (by decide) (by decide)).un hO29 hO53 hu53 (by decide) (by decide)) (by omega) (fun w162 hr163 => ?_))
          obtain ⟨x164, rfl, t165⟩ := hr163
          show uRun _ (uCall Mt _) _ 24 (_, [(.inl x164)], _, _, _)
          refine ur_push rfl ?_
          refine ur_if2 rfl (fun c166 => ?_) (fun c166 => ?_)
          · have t167 := eq_to c166
            refine ur_ldA rfl rfl ?_
            refine ur_inl rfl (rcv_of hc60) (Nat.le_of_ble_eq_true rfl) (Nat.le_of_ble_eq_true rfl) (st_X12_look hO53 ((pre0.un hO0 hO29 hv29 (by decide) (by decide)).un hO29 hO53 hu53 (by decide) (by decide)) (by omega) (fun w168 hr169 => ?_))
            obtain ⟨x170, rfl, t171⟩ := hr169
            show uRun _ (uCall Mt _) _ 42 (_, [(.inl x170)], _, _, _)
            refine ur_svIk [some (.inr (.inr (some 69))), some (.inl x170)] rfl rfl ?_
            refine ur_ldA rfl rfl ?_
            refine ur_dup rfl rfl ?_
            refine ur_get rfl hc60 p66 ?_
            have t172 : 0 ≤ f65.toInt ∧ f65.toInt ≤ 120 := by omega
            refine ur_push rfl ?_
            refine ur_binV rfl (fun x173 e174 => ?_)
            have z175 := any_r f65
            have t176 := ti_add e174 (by omega) (by omega)
            refine ur_putM (W := []) rfl hO53 hc60 (by decide) rfl (ms_20 (hO53.msh hc60)) (Or.inl rfl) (fun h178 hO178 hv178 d177 hc179 => ?_)
            have hu178 : un [83, 84] h53 h178 := hv178.mono (by decide)
            have t180 := fI_of hc179 (gs_ne p62 (by decide))
            have t181 := fI_of hc179 (gs_eq p66)
            have t182 := fI_of hc179 (gs_ne p69 (by decide))
            have t183 := fI_of hc179 (gs_ne p72 (by decide))
            have t184 := fI_of hc179 (gs_ne p75 (by decide))
            refine ur_ldA rfl rfl ?_
            refine ur_inl rfl (rcv_of hc179) (Nat.le_of_ble_eq_true rfl) (Nat.le_of_ble_eq_true rfl) (rec hO178 (((pre0.un hO0 hO29 hv29 (by decide) (by decide)).un hO29 hO53 hu53 (by decide) (by decide)).un hO53 hO178 hv178 (by decide) (by decide)) (by omega) (by omega) (fun w185 h194 hr186 hO194 hv194 hp187 hp188 hp189 hp190 hp191 hp192 hp193 => ?_))
            have hu194 := hv194
            subst hr186
            show uRun _ (uCall Mt _) _ 57 (_, [], _, _, _)
            refine ur_ldA rfl rfl ?_
            refine ur_ldI rfl rfl ?_
            refine ur_push rfl ?_
            obtain ⟨fs195, hc196⟩ := hO194.mod
            obtain ⟨f197, p198, t199⟩ := mf_19 hO194 hc196
            have t200 := fI_of hc196 p198
            obtain ⟨f201, p202⟩ := mf_20 hO194 hc196
            have t203 := fI_of hc196 p202
            obtain ⟨f204, p205⟩ := mf_21 hO194 hc196
            have t206 := fI_of hc196 p205
            obtain ⟨f207, p208⟩ := mf_22 hO194 hc196
            have t209 := fI_of hc196 p208
            obtain ⟨f210, p211, t212⟩ := mf_23 hO194 hc196
            have t213 := fI_of hc196 p211
            have t214 := fI_keep (k := 19) hO178 hO194 hv194 rfl (by decide)
            refine ur_inl rfl (rcv_of hc196) (Nat.le_of_ble_eq_true rfl) (Nat.le_of_ble_eq_true rfl) (sf_X12_lay hO194 _ (by show 1 ≤ x170.toInt ∧ x170.toInt ≤ 124; omega) _ (by omega) (fun w215 h220 hr216 hO220 hv220 hp217 hp218 hp219 => ?_))
            have hu220 := hv220
            subst hr216
            show uRun _ (uCall Mt _) _ 63 (_, [], _, _, _)
            refine ur_go rfl ?_
            obtain ⟨fs221, hc222⟩ := hO220.mod
            obtain ⟨f223, p224, t225⟩ := mf_19 hO220 hc222
            have t226 := fI_of hc222 p224
            obtain ⟨f227, p228⟩ := mf_20 hO220 hc222
            have t229 := fI_of hc222 p228
            obtain ⟨f230, p231⟩ := mf_21 hO220 hc222
            have t232 := fI_of hc222 p231
            obtain ⟨f233, p234⟩ := mf_22 hO220 hc222
            have t235 := fI_of hc222 p234
            obtain ⟨f236, p237, t238⟩ := mf_23 hO220 hc222
            have t239 := fI_of hc222 p237
            exact ih33 _ _ hO220 (hu53.tr (hu178.tr (hu194.tr hu220))) (by omega) (kp.tr (n := (iL h0)) (kp.tr (n := (iL h0)) (kp.tr (n := (iL h0)) px54 (kp_un hO53 hv178 (by decide) (by decide) (iL h0)) (Nat.le_refl _)) hp190 (by unfold iL; omega)) hp218 (by unfold iL; omega)) (fun q => (bk_cast (bk_bin (px55 (by omega)) (kp.tr (n := (iL h53)) (kp.tr (n := (iL h53)) kp.rf (kp_un hO53 hv178 (by decide) (by decide) (iL h53)) (Nat.le_refl _)) hp190 (by unfold iL; omega)) (hp191 (by omega)) (by unfold iL; omega) (kp.tr (n := (iL h194)) kp.rf hp218 (by unfold iL; omega)) hp219 (by unfold iL; omega) (by omega) rfl (by unfold iL; omega) (by unfold iL; omega)) (by unfold iL; omega) (by unfold iL; omega))) (LOt.op (c := 47) (f1 := fI h53 21) (o1 := fI h53 22) (p1 := fI h53 20) (LOt.cast px56 (by omega) rfl) (by omega) (tS.cl pre0 t165.1 (by omega) (by decide)) (by unfold iop; decide) (by decide) (by decide) (by decide) hp192 rfl (by omega) (by omega) (tkR_kp (kp_un hO53 hv178 (by decide) (by decide) (iL h53)) (by omega)) (tkR_2 (tkR_lay hp218 hp219 (by omega) (by omega)) rfl (by omega)) l_0 (by omega)) (by omega)
          · have t240 := eq_no c166
            refine ur_ldA rfl rfl ?_
            refine ur_inl rfl (rcv_of hc60) (Nat.le_of_ble_eq_true rfl) (Nat.le_of_ble_eq_true rfl) (st_X12_look hO53 ((pre0.un hO0 hO29 hv29 (by decide) (by decide)).un hO29 hO53 hu53 (by decide) (by decide)) (by omega) (fun w241 hr242 => ?_))
            obtain ⟨x243, rfl, t244⟩ := hr242
            show uRun _ (uCall Mt _) _ 33 (_, [(.inl x243)], _, _, _)
            refine ur_push rfl ?_
            refine ur_if2 rfl (fun c245 => ?_) (fun c245 => ?_)
            · have t246 := ne_to c245
              exact ur_ret0 rfl (hQ _ _ rfl hO53 (hu29.tr hu53) (by omega) (by omega) (by omega) px54 (fun q => (bk_cast (px55 (by omega)) (by unfold iL; omega) (by unfold iL; omega))) (LOt.done (LOt.cast px56 (by omega) rfl) (by decide) (by decide) (fun q => iop_no t244.1 (by unfold iop; omega))) (by omega))
            · have t247 := ne_no c245
              refine ur_ldA rfl rfl ?_
              refine ur_inl rfl (rcv_of hc60) (Nat.le_of_ble_eq_true rfl) (Nat.le_of_ble_eq_true rfl) (st_X12_look hO53 ((pre0.un hO0 hO29 hv29 (by decide) (by decide)).un hO29 hO53 hu53 (by decide) (by decide)) (by omega) (fun w248 hr249 => ?_))
              obtain ⟨x250, rfl, t251⟩ := hr249
              show uRun _ (uCall Mt _) _ 42 (_, [(.inl x250)], _, _, _)
              refine ur_svIk [some (.inr (.inr (some 69))), some (.inl x250)] rfl rfl ?_
              refine ur_ldA rfl rfl ?_
              refine ur_dup rfl rfl ?_
              refine ur_get rfl hc60 p66 ?_
              have t252 : 0 ≤ f65.toInt ∧ f65.toInt ≤ 120 := by omega
              refine ur_push rfl ?_
              refine ur_binV rfl (fun x253 e254 => ?_)
              have z255 := any_r f65
              have t256 := ti_add e254 (by omega) (by omega)
              refine ur_putM (W := []) rfl hO53 hc60 (by decide) rfl (ms_20 (hO53.msh hc60)) (Or.inl rfl) (fun h258 hO258 hv258 d257 hc259 => ?_)
              have hu258 : un [83, 84] h53 h258 := hv258.mono (by decide)
              have t260 := fI_of hc259 (gs_ne p62 (by decide))
              have t261 := fI_of hc259 (gs_eq p66)
              have t262 := fI_of hc259 (gs_ne p69 (by decide))
              have t263 := fI_of hc259 (gs_ne p72 (by decide))
              have t264 := fI_of hc259 (gs_ne p75 (by decide))
              refine ur_ldA rfl rfl ?_
              refine ur_inl rfl (rcv_of hc259) (Nat.le_of_ble_eq_true rfl) (Nat.le_of_ble_eq_true rfl) (rec hO258 (((pre0.un hO0 hO29 hv29 (by decide) (by decide)).un hO29 hO53 hu53 (by decide) (by decide)).un hO53 hO258 hv258 (by decide) (by decide)) (by omega) (by omega) (fun w265 h274 hr266 hO274 hv274 hp267 hp268 hp269 hp270 hp271 hp272 hp273 => ?_))
              have hu274 := hv274
              subst hr266
              show uRun _ (uCall Mt _) _ 57 (_, [], _, _, _)
              refine ur_ldA rfl rfl ?_
              refine ur_ldI rfl rfl ?_
              refine ur_push rfl ?_
              obtain ⟨fs275, hc276⟩ := hO274.mod
              obtain ⟨f277, p278, t279⟩ := mf_19 hO274 hc276
              have t280 := fI_of hc276 p278
              obtain ⟨f281, p282⟩ := mf_20 hO274 hc276
              have t283 := fI_of hc276 p282
              obtain ⟨f284, p285⟩ := mf_21 hO274 hc276
              have t286 := fI_of hc276 p285
              obtain ⟨f287, p288⟩ := mf_22 hO274 hc276
              have t289 := fI_of hc276 p288
              obtain ⟨f290, p291, t292⟩ := mf_23 hO274 hc276
              have t293 := fI_of hc276 p291
              have t294 := fI_keep (k := 19) hO258 hO274 hv274 rfl (by decide)
              refine ur_inl rfl (rcv_of hc276) (Nat.le_of_ble_eq_true rfl) (Nat.le_of_ble_eq_true rfl) (sf_X12_lay hO274 _ (by show 1 ≤ x250.toInt ∧ x250.toInt ≤ 124; omega) _ (by omega) (fun w295 h300 hr296 hO300 hv300 hp297 hp298 hp299 => ?_))
              have hu300 := hv300
              subst hr296
              show uRun _ (uCall Mt _) _ 63 (_, [], _, _, _)
              refine ur_go rfl ?_
              obtain ⟨fs301, hc302⟩ := hO300.mod
              obtain ⟨f303, p304, t305⟩ := mf_19 hO300 hc302
              have t306 := fI_of hc302 p304
              obtain ⟨f307, p308⟩ := mf_20 hO300 hc302
              have t309 := fI_of hc302 p308
              obtain ⟨f310, p311⟩ := mf_21 hO300 hc302
              have t312 := fI_of hc302 p311
              obtain ⟨f313, p314⟩ := mf_22 hO300 hc302
              have t315 := fI_of hc302 p314
              obtain ⟨f316, p317, t318⟩ := mf_23 hO300 hc302
              have t319 := fI_of hc302 p317
              exact ih33 _ _ hO300 (hu53.tr (hu258.tr (hu274.tr hu300))) (by omega) (kp.tr (n := (iL h0)) (kp.tr (n := (iL h0)) (kp.tr (n := (iL h0)) px54 (kp_un hO53 hv258 (by decide) (by decide) (iL h0)) (Nat.le_refl _)) hp270 (by unfold iL; omega)) hp298 (by unfold iL; omega)) (fun q => (bk_cast (bk_bin (px55 (by omega)) (kp.tr (n := (iL h53)) (kp.tr (n := (iL h53)) kp.rf (kp_un hO53 hv258 (by decide) (by decide) (iL h53)) (Nat.le_refl _)) hp270 (by unfold iL; omega)) (hp271 (by omega)) (by unfold iL; omega) (kp.tr (n := (iL h274)) kp.rf hp298 (by unfold iL; omega)) hp299 (by unfold iL; omega) (by omega) rfl (by unfold iL; omega) (by unfold iL; omega)) (by unfold iL; omega) (by unfold iL; omega))) (LOt.op (c := 37) (f1 := fI h53 21) (o1 := fI h53 22) (p1 := fI h53 20) (LOt.cast px56 (by omega) rfl) (by omega) (tS.cl pre0 t244.1 (by omega) (by decide)) (by unfold iop; decide) (by decide) (by decide) (by decide) hp272 rfl (by omega) (by omega) (tkR_kp (kp_un hO53 hv258 (by decide) (by decide) (iL h53)) (by omega)) (tkR_2 (tkR_lay hp298 hp299 (by omega) (by omega)) rfl (by omega)) l_0 (by omega)) (by omega)
  exact L31 _ (none) _ hO29 un.rf (by omega) (kp.tr (n := (iL h0)) kp.rf hp25 (by unfold iL; omega)) (fun q => (bk_cast (hp26 (by omega)) (by unfold iL; omega) (by unfold iL; omega))) (ROt.up hp27 rfl (by decide) (by decide)) (Nat.lt_succ_self _)
end TRHa
