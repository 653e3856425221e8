/-! SIGHT: what texts tell, who can see; printed by program but for its head -/
section SG2
theorem bz_1 {q : Bool} (h : (bi q).toInt = ((1 : Int32)).toInt) : q = true := by
  cases q
  · exact absurd h (by decide)
  · rfl
theorem bz_0 {q : Bool} (h : (bi q).toInt = ((0 : Int32)).toInt) : q = false := by
  cases q
  · rfl
  · exact absurd h (by decide)
theorem bz_n1 {q : Bool} (h : (bi q).toInt ≠ ((1 : Int32)).toInt) : q = false := by
  cases q
  · rfl
  · exact absurd rfl h
theorem bz_n0 {q : Bool} (h : (bi q).toInt ≠ ((0 : Int32)).toInt) : q = true := by
  cases q
  · exact absurd rfl h
  · rfl
theorem wid_d {q : Nat} (h : 114 ≤ q) : wid q (0, 241) = 200 := by
  unfold wid
  rw [if_neg (by omega)]
  rfl
theorem CDz.un {W : List Nat} {h h' : aH} {z : Nat} (H : CDz h z) (hO : OK h) (g : un W h h') (gz : 114 ≤ z) (t : tg h z = (102, 14)) (w : ∀ k ∈ [21202, 21203, 21204, 21205, 21211], k ∉ W) (w2 : 200 ∉ W) : CDz h' z := by
  obtain ⟨gg, p, s, nd, rc, wy, b, pa, bo, f, l, q1, q2, sg, q3, c, k1, k2, k3, k4, k5⟩ := hO.comet t
  have f2 := fC_un hO g gz t (k := 2) (by decide) (w _ (by decide))
  have f3 := fC_un hO g gz t (k := 3) (by decide) (w _ (by decide))
  have f4 := fC_un hO g gz t (k := 4) (by decide) (w _ (by decide))
  have f5 := fC_un hO g gz t (k := 5) (by decide) (w _ (by decide))
  have f11 := fC_un hO g gz t (k := 11) (by decide) (w _ (by decide))
  have e : rP h z 11 = q2 := rP_of (fA_of (k := 11) c)
  have a : arI h' (rP h z 11) = arI h (rP h z 11) := by
    rw [e]
    obtain ⟨xs, hc, hn, he⟩ := hO.int k2.2
    rw [arI_of hc, arI_of (g.ka (n := 241) hc hn (scA_d k2.1) (by decide) (wid_d k2.1) w2)]
  unfold CDz at H ⊢
  rw [fO_eA f2, fO_eA f3, fO_eA f4, fO_eA f5, rP_e f11]
  refine ⟨H.1, H.2.1, H.2.2.1, H.2.2.2.1, fun e e0 e1 => ?_⟩
  rw [gI_e a]
  exact H.2.2.2.2 e e0 e1
def nuL (s q b g e d p : Int32) : Int → Int32 := fun j => [s, q, b, g, e, d, p].getD j.toNat 0
theorem nuC_S {h : aH} (hO : OK h) {xs : List Int32} {s q b g e d p : Int32} (ee : arI h 13 = ((((((xs.set 0 s).set 1 q).set 2 b).set 3 g).set 4 e).set 5 d).set 6 p) : nuC h 13 = nuL s q b g e d p := by
  obtain ⟨L, hc, hn, hz⟩ := hO.inz (hO.fix 13 (by decide) rfl)
  have eL : L = ((((((xs.set 0 s).set 1 q).set 2 b).set 3 g).set 4 e).set 5 d).set 6 p := (arI_of hc).symm.trans ee
  have hx : xs.length = 10 := by
    rw [eL] at hn
    simpa using hn
  have z : ∀ i ∈ zI 13, L.getD i 0 = 0 := hz
  funext j
  unfold nuC nuL
  rw [arI_of hc]
  generalize j.toNat = n
  match n with
  | 0 => rw [eL]; simp [List.getElem?_set, hx]
  | 1 => rw [eL]; simp [List.getElem?_set, hx]
  | 2 => rw [eL]; simp [List.getElem?_set, hx]
  | 3 => rw [eL]; simp [List.getElem?_set, hx]
  | 4 => rw [eL]; simp [List.getElem?_set, hx]
  | 5 => rw [eL]; simp [List.getElem?_set, hx]
  | 6 => rw [eL]; simp [List.getElem?_set, hx]
  | 7 => exact z 7 (by decide)
  | 8 => exact z 8 (by decide)
  | 9 => exact z 9 (by decide)
  | n + 10 =>
    rw [List.getD_eq_getElem?_getD, List.getElem?_eq_none (by omega)]
    rfl
theorem nuM_S {h hA : aH} (hO : OK hA) {s q b g e d p : Int32} (z : ∀ k : Nat, (k : Int) < 10 → (arI hA 88).getD k 0 = 0) (ee : arI h 88 = (((((((arI hA 88).set 0 s).set 1 q).set 2 b).set 3 g).set 4 e).set 5 d).set 6 p) : nuM h = nuL s q b g e d p := by
  obtain ⟨L, hc, hx, -⟩ := hO.int (hO.fix 88 (by decide) rfl)
  have eL := arI_of hc
  rw [eL] at ee z
  funext j
  unfold nuM nuL
  rw [ee]
  generalize j.toNat = n
  match n with
  | 0 => simp [List.getElem?_set, hx]
  | 1 => simp [List.getElem?_set, hx]
  | 2 => simp [List.getElem?_set, hx]
  | 3 => simp [List.getElem?_set, hx]
  | 4 => simp [List.getElem?_set, hx]
  | 5 => simp [List.getElem?_set, hx]
  | 6 => simp [List.getElem?_set, hx]
  | 7 =>
    have k := z 7 (by decide)
    rw [List.getD_eq_getElem?_getD] at k ⊢
    rw [List.getElem?_set_ne (by decide), List.getElem?_set_ne (by decide), List.getElem?_set_ne (by decide), List.getElem?_set_ne (by decide), List.getElem?_set_ne (by decide), List.getElem?_set_ne (by decide), List.getElem?_set_ne (by decide), k]
    rfl
  | 8 =>
    have k := z 8 (by decide)
    rw [List.getD_eq_getElem?_getD] at k ⊢
    rw [List.getElem?_set_ne (by decide), List.getElem?_set_ne (by decide), List.getElem?_set_ne (by decide), List.getElem?_set_ne (by decide), List.getElem?_set_ne (by decide), List.getElem?_set_ne (by decide), List.getElem?_set_ne (by decide), k]
    rfl
  | 9 =>
    have k := z 9 (by decide)
    rw [List.getD_eq_getElem?_getD] at k ⊢
    rw [List.getElem?_set_ne (by decide), List.getElem?_set_ne (by decide), List.getElem?_set_ne (by decide), List.getElem?_set_ne (by decide), List.getElem?_set_ne (by decide), List.getElem?_set_ne (by decide), List.getElem?_set_ne (by decide), k]
    rfl
  | n + 10 =>
    rw [List.getD_eq_getElem?_getD, List.getElem?_eq_none (by simp only [List.length_set]; omega)]
    rfl
theorem fI_69 {h h' : aH} (e : h'[69]? = h[69]?) {k : Nat} : fI h' k = fI h k := by
  unfold fI
  rw [e]
/-- what the lines of a text give for one that stands -/
noncomputable def tvF0 (ls : List (List (Int × Int) × List (Int × Int))) (s q b g e d p : Int) : Int := (tvl (nuL (Int32.ofInt s) (Int32.ofInt q) (Int32.ofInt b) (Int32.ofInt g) (Int32.ofInt e) (Int32.ofInt d) (Int32.ofInt p)) ls).toInt
noncomputable def tvF : List (List (Int × Int) × List (Int × Int)) → Int → Int → Int → Int → Int → Int → Int → Int := Classical.choose (⟨tvF0, rfl⟩ : ∃ f, f = tvF0)
theorem tvF_eq (ls : List (List (Int × Int) × List (Int × Int))) (s q b g e d p : Int) : tvF ls s q b g e d p = (tvl (nuL (Int32.ofInt s) (Int32.ofInt q) (Int32.ofInt b) (Int32.ofInt g) (Int32.ofInt e) (Int32.ofInt d) (Int32.ofInt p)) ls).toInt := by
  have h : tvF = tvF0 := Classical.choose_spec (⟨tvF0, rfl⟩ : ∃ f, f = tvF0)
  rw [h]
  rfl
theorem tvF_m {ls : List (List (Int × Int) × List (Int × Int))} {s q b g e d : Int} {p x : Int32} (hx : x = tvl (nuL (Int32.ofInt s) (Int32.ofInt q) (Int32.ofInt b) (Int32.ofInt g) (Int32.ofInt e) (Int32.ofInt d) p) ls) : x.toInt = tvF ls s q b g e d p.toInt := by
  rw [tvF_eq, hx, Int32.ofInt_toInt]
theorem tvF_of {ls : List (List (Int × Int) × List (Int × Int))} {s q b g e d p x : Int32} {s' q' b' g' e' d' p' : Int} (hx : x = tvl (nuL s q b g e d p) ls) (h1 : s.toInt = s') (h2 : q.toInt = q') (h3 : b.toInt = b') (h4 : g.toInt = g') (h5 : e.toInt = e') (h6 : d.toInt = d') (h7 : p.toInt = p') : x.toInt = tvF ls s' q' b' g' e' d' p' := by
  subst h1 h2 h3 h4 h5 h6 h7
  rw [tvF_eq, hx, Int32.ofInt_toInt, Int32.ofInt_toInt, Int32.ofInt_toInt, Int32.ofInt_toInt, Int32.ofInt_toInt, Int32.ofInt_toInt, Int32.ofInt_toInt]
noncomputable def tdV (ls : List (List (Int × Int) × List (Int × Int))) (nd w q b p e d : Int) : Int := tvF ls (apF (dgF nd w q e - d % 360)) (q + azI e) b (dgF nd w q e) e (d % 30) p
def clF (v : Int) : Int := if v < 0 then 0 else if 99 < v then 99 else v
noncomputable def tlN (ls : List (List (Int × Int) × List (Int × Int))) (s q b g e d p : Int) : Int := if ls = [] then 0 else clF (tvF ls s q b g e d p)
theorem tlN_n {ls : List (List (Int × Int) × List (Int × Int))} {s q b g e d p : Int} (h : ls = []) : tlN ls s q b g e d p = 0 := if_pos h
theorem tlN_t {ls : List (List (Int × Int) × List (Int × Int))} {s q b g e d p : Int} (h : ls ≠ []) : tlN ls s q b g e d p = clF (tvF ls s q b g e d p) := if_neg h
noncomputable def tlV (ls : List (List (Int × Int) × List (Int × Int))) (nd w q b p e d : Int) : Int := tlN ls (apF (dgF nd w q e - d % 360)) (q + azI e) b (dgF nd w q e) e (d % 30) p
theorem tlV_n {ls : List (List (Int × Int) × List (Int × Int))} {nd w q b p e d : Int} (h : ls = []) : tlV ls nd w q b p e d = 0 := if_pos h
theorem tlV_t {ls : List (List (Int × Int) × List (Int × Int))} {nd w q b p e d : Int} (h : ls ≠ []) : tlV ls nd w q b p e d = clF (tdV ls nd w q b p e d) := if_neg h
/-- what a word of a kind says holds of one that is seen, e days off its pass -/
def asP (ls : List (List (Int × Int) × List (Int × Int))) (ki mo p nd w q b e d : Int) : Prop := (ki = 1 → ofF (dgF nd w q e) mo ≤ 7) ∧ (ki = 6 → ofF (dgF nd w q e) mo = 0) ∧ (ki = 2 ∨ ki = 7 → (wsF (dgF nd w q e) d ↔ mo = 1)) ∧ (ki = 4 → azI e ≤ 10) ∧ (ki = 5 → tlV ls nd w q b p e d = 0)
/-- who can see it -/
def canP (ls : List (List (Int × Int) × List (Int × Int))) (nd w q b p t d : Int) : Prop := (-120 ≤ d - t ∧ d - t ≤ 120) ∧ 15 ≤ apF (dgF nd w q (d - t) - d % 360) ∧ (ls = [] ∨ tdV ls nd w q b p (d - t) d ≠ 0)
set_option maxRecDepth 20000 in
set_option maxHeartbeats 4000000 in
theorem sd_X5_toldBy {d kc ks : Nat} {h0 : aH} {Q : Option aV → aH → Prop} {ls : List (List (Int × Int) × List (Int × Int))} (hO0 : OK h0) {a1 : Nat} (t1 : tg h0 a1 = (109, 2)) {a2 : Nat} (g2 : 114 ≤ a2) (t2 : tg h0 a2 = (102, 14)) (a3 : Int32) (b3 : 0 ≤ a3.toInt ∧ a3.toInt ≤ 8) (a4 : Int32) (b4 : -120 ≤ a4.toInt ∧ a4.toInt ≤ 120) (a5 : Int32) (b5 : 0 ≤ a5.toInt ∧ a5.toInt ≤ 999999) (pre0 : CDz h0 a2) (pre1 : txC h0 a1 = cfl 0 ls) (pre2 : a1 ∈ TXQ) (pre3 : ∀ l ∈ ls, lnG l) (hQ : ∀ r h', (∃ x : Int32, r = some (.inl x) ∧ (x.toInt = tdV ls (fO h0 a2 2) (fO h0 a2 4) (fO h0 a2 3) (fO h0 a2 5) a3.toInt a4.toInt a5.toInt)) → OK h' → un [] h0 h' → Q r h') : uCall Mt (d + 3) 50 [(.inr (.inr (some 8))), (.inr (.inr (some a1))), (.inr (.inr (some a2))), (.inl a3), (.inl a4), (.inl a5)] h0 kc ks Q := by
  have l_0 : ((0) : Int32).toInt = 0 := by decide
  have l_1 : ((1) : Int32).toInt = 1 := by decide
  have l_2 : ((2) : Int32).toInt = 2 := by decide
  have l_3 : ((3) : Int32).toInt = 3 := by decide
  have l_4 : ((4) : Int32).toInt = 4 := by decide
  have l_5 : ((5) : Int32).toInt = 5 := by decide
  have l_6 : ((6) : Int32).toInt = 6 := by decide
  have l_30 : ((30) : Int32).toInt = 30 := by decide
  have l_360 : ((360) : Int32).toInt = 360 := by decide
  refine uc_ink [some (.inr (.inr (some 8))), some (.inr (.inr (some a1))), some (.inr (.inr (some a2))), some (.inl a3), some (.inl a4), some (.inl a5), none] mt_50 (Nat.le_of_ble_eq_true rfl) rfl ?_
  obtain ⟨g21, f2, f3, f4, f5, f6, f7, f8, f9, f10, f11, q12, q13, o14, q15, hc1, k16, k17, k18, k19, k20⟩ := hO0.comet t2
  have tt22 := fO_of (k := 5) hc1 rfl
  refine ur_ldA rfl rfl ?_
  refine ur_ldI rfl rfl ?_
  refine ur_inl rfl (rcv_of hc1) (Nat.le_of_ble_eq_true rfl) (Nat.le_of_ble_eq_true rfl) (sd_X2_degreeAt hO0 g21 t2 _ (by show -120 ≤ a4.toInt ∧ a4.toInt ≤ 120; omega) pre0 (fun w23 hr24 => ?_))
  obtain ⟨x25, rfl, f26⟩ := hr24
  show uRun _ (uCall Mt _) _ 6 (_, [(.inl x25)], _, _, _)
  refine ur_svIk [some (.inr (.inr (some 8))), some (.inr (.inr (some a1))), some (.inr (.inr (some a2))), some (.inl a3), some (.inl a4), some (.inl a5), some (.inl x25)] rfl rfl ?_
  refine ur_ldA rfl rfl ?_
  obtain ⟨f28, hc27, k29⟩ := ok_8 hO0
  refine ur_get rfl hc27 rfl ?_
  refine ur_push rfl ?_
  refine ur_ldI rfl rfl ?_
  refine ur_ldI rfl rfl ?_
  refine ur_push rfl ?_
  refine ur_divV rfl (by decide) (fun x30 e31 => ?_)
  have z32 := any_r a5
  have t33 := ti_rem e31 l_360 (by decide) (by omega)
  refine ur_inl rfl rfl (Nat.le_of_ble_eq_true rfl) (Nat.le_of_ble_eq_true rfl) (se_X11_apart hO0 _ (by show 0 ≤ x25.toInt ∧ x25.toInt ≤ 359; omega) _ (by show 0 ≤ x30.toInt ∧ x30.toInt ≤ 359; omega) (fun w34 hr35 => ?_))
  obtain ⟨x36, rfl, f37⟩ := hr35
  show uRun _ (uCall Mt _) _ 24 (_, [(.inl x36), (.inl 0), (.inr (.inr (some 13)))], _, _, _)
  obtain ⟨xs39, hc38, hn40, he41⟩ := hO0.int (hO0.fix 13 (by decide) rfl)
  refine ur_astG (W := []) (m := 10) rfl hO0 hc38 (by decide) hn40 (by omega) (any_r _) (Or.inl rfl) (fun _ => by decide) (fun h44 hO44 hu44 d42 hc43 => ?_)
  have w45 : wI h0 h44 13 ((arI h0 13).set (0 : Int32).toInt.toNat x36) := ⟨by rw [arI_of hc43, arI_of hc38], d42⟩
  refine ur_ldA rfl rfl ?_
  refine ur_get rfl ((d42 _ (by decide)).trans hc27) rfl ?_
  refine ur_push rfl ?_
  refine ur_ldA rfl rfl ?_
  refine ur_ldI rfl rfl ?_
  refine ur_inl rfl (rcv_of ((d42 _ (ne_tg (hu44.tm t2 (by decide)) (hO44.fix 13 (by decide) rfl) (by decide))).trans hc1)) (Nat.le_of_ble_eq_true rfl) (Nat.le_of_ble_eq_true rfl) (sd_X2_distanceAt hO44 g21 (hu44.tm t2 (by decide)) _ (by show -120 ≤ a4.toInt ∧ a4.toInt ≤ 120; omega) (pre0.un hO0 hu44 g2 t2 (by decide) (by decide)) (fun w46 hr47 => ?_))
  obtain ⟨x48, rfl, f49⟩ := hr47
  show uRun _ (uCall Mt _) _ 36 (_, [(.inl x48), (.inl 1), (.inr (.inr (some 13)))], _, _, _)
  have e50 : x48.toInt = fO h0 a2 3 + azI a4.toInt := by have q := f49.1; rw [fO_eA (show fA h44 a2 3 = fA h0 a2 3 from (fC_un hO0 hu44 g2 t2 (by decide) (by decide)))] at q; exact q
  obtain ⟨xs52, hc51, hn53, he54⟩ := hO44.int (hO44.fix 13 (by decide) rfl)
  refine ur_astG (W := []) (m := 10) rfl hO44 hc51 (by decide) hn53 (by omega) (any_r _) (Or.inl rfl) (fun _ => by decide) (fun h57 hO57 hu57 d55 hc56 => ?_)
  have w58 : wI h44 h57 13 ((arI h44 13).set (1 : Int32).toInt.toNat x48) := ⟨by rw [arI_of hc56, arI_of hc51], d55⟩
  refine ur_ldA rfl rfl ?_
  refine ur_get rfl ((d55 _ (by decide)).trans ((d42 _ (by decide)).trans hc27)) rfl ?_
  refine ur_push rfl ?_
  refine ur_ldA rfl rfl ?_
  have hc59 := ((d55 _ (ne_tg (hu57.tm (hu44.tm t2 (by decide)) (by decide)) (hO57.fix 13 (by decide) rfl) (by decide))).trans ((d42 _ (ne_tg (hu44.tm t2 (by decide)) (hO44.fix 13 (by decide) rfl) (by decide))).trans hc1))
  refine ur_get rfl hc59 rfl ?_
  have tt60 : f7.toInt = fO h0 a2 5 := ((fO_of (k := 5) hc59 rfl).symm).trans (fO_eA (fC_un hO0 (hu44.tr hu57) g2 t2 (by decide) (by decide)))
  obtain ⟨xs62, hc61, hn63, he64⟩ := hO57.int (hO57.fix 13 (by decide) rfl)
  refine ur_astG (W := []) (m := 10) rfl hO57 hc61 (by decide) hn63 (by omega) (any_r _) (Or.inl rfl) (fun _ => by decide) (fun h67 hO67 hu67 d65 hc66 => ?_)
  have w68 : wI h57 h67 13 ((arI h57 13).set (2 : Int32).toInt.toNat f7) := ⟨by rw [arI_of hc66, arI_of hc61], d65⟩
  refine ur_ldA rfl rfl ?_
  refine ur_get rfl ((d65 _ (by decide)).trans ((d55 _ (by decide)).trans ((d42 _ (by decide)).trans hc27))) rfl ?_
  refine ur_push rfl ?_
  refine ur_ldI rfl rfl ?_
  obtain ⟨xs70, hc69, hn71, he72⟩ := hO67.int (hO67.fix 13 (by decide) rfl)
  refine ur_astG (W := []) (m := 10) rfl hO67 hc69 (by decide) hn71 (by omega) (any_r _) (Or.inl rfl) (fun _ => by decide) (fun h75 hO75 hu75 d73 hc74 => ?_)
  have w76 : wI h67 h75 13 ((arI h67 13).set (3 : Int32).toInt.toNat x25) := ⟨by rw [arI_of hc74, arI_of hc69], d73⟩
  refine ur_ldA rfl rfl ?_
  refine ur_get rfl ((d73 _ (by decide)).trans ((d65 _ (by decide)).trans ((d55 _ (by decide)).trans ((d42 _ (by decide)).trans hc27)))) rfl ?_
  refine ur_push rfl ?_
  refine ur_ldI rfl rfl ?_
  obtain ⟨xs78, hc77, hn79, he80⟩ := hO75.int (hO75.fix 13 (by decide) rfl)
  refine ur_astG (W := []) (m := 10) rfl hO75 hc77 (by decide) hn79 (by omega) (any_r _) (Or.inl rfl) (fun _ => by decide) (fun h83 hO83 hu83 d81 hc82 => ?_)
  have w84 : wI h75 h83 13 ((arI h75 13).set (4 : Int32).toInt.toNat a4) := ⟨by rw [arI_of hc82, arI_of hc77], d81⟩
  refine ur_ldA rfl rfl ?_
  refine ur_get rfl ((d81 _ (by decide)).trans ((d73 _ (by decide)).trans ((d65 _ (by decide)).trans ((d55 _ (by decide)).trans ((d42 _ (by decide)).trans hc27))))) rfl ?_
  refine ur_push rfl ?_
  refine ur_ldI rfl rfl ?_
  refine ur_push rfl ?_
  refine ur_divV rfl (by decide) (fun x85 e86 => ?_)
  have t87 := ti_rem e86 l_30 (by decide) (by omega)
  obtain ⟨xs89, hc88, hn90, he91⟩ := hO83.int (hO83.fix 13 (by decide) rfl)
  refine ur_astG (W := []) (m := 10) rfl hO83 hc88 (by decide) hn90 (by omega) (any_r _) (Or.inl rfl) (fun _ => by decide) (fun h94 hO94 hu94 d92 hc93 => ?_)
  have w95 : wI h83 h94 13 ((arI h83 13).set (5 : Int32).toInt.toNat x85) := ⟨by rw [arI_of hc93, arI_of hc88], d92⟩
  refine ur_ldA rfl rfl ?_
  refine ur_get rfl ((d92 _ (by decide)).trans ((d81 _ (by decide)).trans ((d73 _ (by decide)).trans ((d65 _ (by decide)).trans ((d55 _ (by decide)).trans ((d42 _ (by decide)).trans hc27)))))) rfl ?_
  refine ur_push rfl ?_
  refine ur_ldI rfl rfl ?_
  obtain ⟨xs97, hc96, hn98, he99⟩ := hO94.int (hO94.fix 13 (by decide) rfl)
  refine ur_astG (W := []) (m := 10) rfl hO94 hc96 (by decide) hn98 (by omega) (any_r _) (Or.inl rfl) (fun _ => by decide) (fun h102 hO102 hu102 d100 hc101 => ?_)
  have w103 : wI h94 h102 13 ((arI h94 13).set (6 : Int32).toInt.toNat a3) := ⟨by rw [arI_of hc101, arI_of hc96], d100⟩
  refine ur_ldA rfl rfl ?_
  refine ur_ldA rfl rfl ?_
  have hc104 := ((d100 _ (by decide)).trans ((d92 _ (by decide)).trans ((d81 _ (by decide)).trans ((d73 _ (by decide)).trans ((d65 _ (by decide)).trans ((d55 _ (by decide)).trans ((d42 _ (by decide)).trans hc27)))))))
  refine ur_get rfl hc104 rfl ?_
  refine ur_ldA rfl rfl ?_
  refine ur_get rfl hc104 rfl ?_
  have e105 : nuC h102 13 = nuL x36 x48 f7 x25 a4 x85 a3 := nuC_S hO102 (xs := arI h0 13) (by rw [w103.1, w95.1, w84.1, w76.1, w68.1, w58.1, w45.1]; rfl)
  obtain ⟨g110, f107, hc106, k108, k109⟩ := hO102.text (hu102.tm (hu94.tm (hu83.tm (hu75.tm (hu67.tm (hu57.tm (hu44.tm t1 (by decide)) (by decide)) (by decide)) (by decide)) (by decide)) (by decide)) (by decide))
  refine ur_inl rfl (rcv_of hc106) (Nat.le_of_ble_eq_true rfl) (Nat.le_of_ble_eq_true rfl) (st_X9_valueWith hO102 (hu102.tm (hu94.tm (hu83.tm (hu75.tm (hu67.tm (hu57.tm (hu44.tm t1 (by decide)) (by decide)) (by decide)) (by decide)) (by decide)) (by decide)) (by decide)) (hO102.fix 13 (by decide) rfl) (hO102.fix 14 (by decide) rfl) rfl rfl ((txC_un hO0 hO102 (hu44.tr (hu57.tr (hu67.tr (hu75.tr (hu83.tr (hu94.tr hu102)))))) (by decide) a1 pre2).trans pre1) rfl pre2 pre3 (fun w111 h113 hr112 hO113 hv113 => ?_))
  have hu113 := hv113
  obtain ⟨x114, rfl, f115⟩ := hr112
  show uRun _ (uCall Mt _) _ 94 (_, [(.inl x114)], _, _, _)
  exact ur_ret rfl rfl (hQ _ _ ⟨_, rfl, (by unfold tdV; exact tvF_of (f115.trans (by rw [e105])) (by rw [f37.1, f26.1, show x30.toInt = a5.toInt % 360 by omega]) e50 (by omega) f26.1 rfl (by omega) rfl)⟩ hO113 (hu44.tr (hu57.tr (hu67.tr (hu75.tr (hu83.tr (hu94.tr (hu102.tr hu113))))))))

set_option maxRecDepth 20000 in
set_option maxHeartbeats 4000000 in
theorem sd_X5_tailOf {d kc ks : Nat} {h0 : aH} {Q : Option aV → aH → Prop} {ls : List (List (Int × Int) × List (Int × Int))} (hO0 : OK h0) {a1 : Nat} (g1 : 114 ≤ a1) (t1 : tg h0 a1 = (102, 14)) (a2 : Int32) (b2 : 0 ≤ a2.toInt ∧ a2.toInt ≤ 8) (a3 : Int32) (b3 : -120 ≤ a3.toInt ∧ a3.toInt ≤ 120) (a4 : Int32) (b4 : 0 ≤ a4.toInt ∧ a4.toInt ≤ 999999) (pre0 : CDz h0 a1) (pre1 : txC h0 11 = cfl 0 ls) (pre2 : ∀ l ∈ ls, lnG l) (hQ : ∀ r h', (∃ x : Int32, r = some (.inl x) ∧ (x.toInt = tlV ls (fO h0 a1 2) (fO h0 a1 4) (fO h0 a1 3) (fO h0 a1 5) a2.toInt a3.toInt a4.toInt ∧ 0 ≤ x.toInt ∧ x.toInt ≤ 99)) → OK h' → un [] h0 h' → Q r h') : uCall Mt (d + 4) 49 [(.inr (.inr (some 8))), (.inr (.inr (some a1))), (.inl a2), (.inl a3), (.inl a4)] h0 kc ks Q := by
  have l_0 : ((0) : Int32).toInt = 0 := by decide
  have l_99 : ((99) : Int32).toInt = 99 := by decide
  refine uc_ink [some (.inr (.inr (some 8))), some (.inr (.inr (some a1))), some (.inl a2), some (.inl a3), some (.inl a4)] mt_49 (Nat.le_of_ble_eq_true rfl) rfl ?_
  have tt1 : ((txC h0 11).length : Int) = fO h0 11 1 := txC_L hO0 (hO0.fix 11 (by decide) rfl)
  refine ur_ldA rfl rfl ?_
  obtain ⟨f3, hc2, k4⟩ := ok_8 hO0
  refine ur_get rfl hc2 rfl ?_
  obtain ⟨g9, f6, hc5, k7, k8⟩ := hO0.text (hO0.fix 11 (by decide) rfl)
  refine ur_inl rfl (rcv_of hc5) (Nat.le_of_ble_eq_true rfl) (Nat.le_of_ble_eq_true rfl) (st_X9_isTold hO0 (hO0.fix 11 (by decide) rfl) (fun w10 hr11 => ?_))
  obtain ⟨b12, rfl, t13, t14⟩ := hr11
  show uRun _ (uCall Mt _) _ 7 (_, [(.inl (bi b12))], _, _, _)
  refine ur_eqB rfl (fun c15 => ?_) (fun c15 => ?_)
  · have t16 := t14 c15
    clear t13 t14
    refine ur_push rfl ?_
    exact ur_ret rfl rfl (hQ _ _ ⟨_, rfl, ⟨by rw [tlV_n (cfl_nil.mp (pre1.symm.trans (List.length_eq_zero_iff.mp (by omega))))]; omega, by omega⟩⟩ hO0 un.rf)
  · have t17 := t13 c15
    clear t13 t14
    refine ur_push rfl ?_
    refine ur_push rfl ?_
    refine ur_ldA rfl rfl ?_
    refine ur_ldA rfl rfl ?_
    refine ur_get rfl hc2 rfl ?_
    refine ur_ldA rfl rfl ?_
    refine ur_ldI rfl rfl ?_
    refine ur_ldI rfl rfl ?_
    refine ur_ldI rfl rfl ?_
    refine ur_inl rfl (rcv_of hc2) (Nat.le_of_ble_eq_true rfl) (Nat.le_of_ble_eq_true rfl) (sd_X5_toldBy hO0 (hO0.fix 11 (by decide) rfl) g1 t1 _ (by show 0 ≤ a2.toInt ∧ a2.toInt ≤ 8; omega) _ (by show -120 ≤ a3.toInt ∧ a3.toInt ≤ 120; omega) _ (by show 0 ≤ a4.toInt ∧ a4.toInt ≤ 999999; omega) pre0 pre1 (show 11 ∈ TXQ by decide) pre2 (fun w18 h20 hr19 hO20 hv20 => ?_))
    have hu20 := hv20
    obtain ⟨x21, rfl, f22⟩ := hr19
    show uRun _ (uCall Mt _) _ 26 (_, [(.inl x21), (.inl 99), (.inl 0)], _, _, _)
    refine ur_minV rfl (by show ¬ 9 ≤ 3; decide) (fun x23 t24 e25 => ?_)
    refine ur_maxV rfl (by show ¬ 9 ≤ 2; decide) (fun x26 t27 e28 => ?_)
    refine ur_go rfl ?_
    exact ur_ret rfl rfl (hQ _ _ ⟨_, rfl, ⟨by rw [tlV_t (fun q => by rw [q] at pre1; rw [pre1] at tt1; have z : (0 : Int) = _ := tt1; omega), ← f22]; unfold clF; split <;> (try split) <;> omega, by omega⟩⟩ hO20 hu20)

set_option maxRecDepth 20000 in
set_option maxHeartbeats 4000000 in
theorem sd_X5_isAsSaid {d kc ks : Nat} {h0 : aH} {Q : Option aV → aH → Prop} {ls : List (List (Int × Int) × List (Int × Int))} (hO0 : OK h0) {a1 : Nat} (g1 : 114 ≤ a1) (t1 : tg h0 a1 = (110, 13)) {a2 : Nat} (g2 : 114 ≤ a2) (t2 : tg h0 a2 = (102, 14)) (a3 : Int32) (b3 : -120 ≤ a3.toInt ∧ a3.toInt ≤ 120) (a4 : Int32) (b4 : 0 ≤ a4.toInt ∧ a4.toInt ≤ 999999) (pre0 : CDz h0 a2) (pre1 : txC h0 11 = cfl 0 ls) (pre2 : ∀ l ∈ ls, lnG l) (pre3 : (fO h0 a1 1 = 1 ∨ fO h0 a1 1 = 6) → 0 ≤ fO h0 a1 8 ∧ fO h0 a1 8 ≤ 23) (hQ : ∀ r h', (∃ q, r = some (.inl (bi q)) ∧ (q = true → asP ls (fO h0 a1 1) (fO h0 a1 8) (fO h0 a1 2) (fO h0 a2 2) (fO h0 a2 4) (fO h0 a2 3) (fO h0 a2 5) a3.toInt a4.toInt) ∧ (q = false → ¬ asP ls (fO h0 a1 1) (fO h0 a1 8) (fO h0 a1 2) (fO h0 a2 2) (fO h0 a2 4) (fO h0 a2 3) (fO h0 a2 5) a3.toInt a4.toInt)) → OK h' → un [] h0 h' → Q r h') : uCall Mt (d + 5) 55 [(.inr (.inr (some 8))), (.inr (.inr (some a1))), (.inr (.inr (some a2))), (.inl a3), (.inl a4)] h0 kc ks Q := by
  have l_0 : ((0) : Int32).toInt = 0 := by decide
  have l_1 : ((1) : Int32).toInt = 1 := by decide
  have l_7 : ((7) : Int32).toInt = 7 := by decide
  have l_10 : ((10) : Int32).toInt = 10 := by decide
  refine uc_ink [some (.inr (.inr (some 8))), some (.inr (.inr (some a1))), some (.inr (.inr (some a2))), some (.inl a3), some (.inl a4)] mt_55 (Nat.le_of_ble_eq_true rfl) rfl ?_
  obtain ⟨g17, f2, f3, f4, f5, f6, f7, f8, f9, f10, o14, f11, f12, f13, hc1, k15, k16⟩ := hO0.word t1
  have tt18 := fO_of (k := 1) hc1 rfl
  have tt19 := fO_of (k := 2) hc1 rfl
  have tt20 := fO_of (k := 8) hc1 rfl
  refine ur_ldA rfl rfl ?_
  refine ur_get rfl hc1 rfl ?_
  rcases (show (f3.toInt < 1 ∨ 7 < f3.toInt) ∨ f3.toInt = 1 ∨ f3.toInt = 2 ∨ f3.toInt = 3 ∨ f3.toInt = 4 ∨ f3.toInt = 5 ∨ f3.toInt = 6 ∨ f3.toInt = 7 by omega) with t21 | t21 | t21 | t21 | t21 | t21 | t21 | t21
  · refine ur_tabO rfl (by show f3.toInt < 1 ∨ 1 + 7 ≤ f3.toInt; omega) ?_
    refine ur_push rfl ?_
    exact ur_ret rfl rfl (hQ _ _ ⟨true, rfl, fun _ => ⟨fun q => absurd q (by omega), fun q => absurd q (by omega), fun q => absurd q (by omega), fun q => absurd q (by omega), fun q => absurd q (by omega)⟩, fun e => absurd e (by decide)⟩ hO0 un.rf)
  · refine ur_tabI rfl (by omega) (by rw [t21]; rfl) ?_
    refine ur_ldA rfl rfl ?_
    refine ur_ldI rfl rfl ?_
    obtain ⟨g42, f23, f24, f25, f26, f27, f28, f29, f30, f31, f32, q33, q34, o35, q36, hc22, k37, k38, k39, k40, k41⟩ := hO0.comet t2
    refine ur_inl rfl (rcv_of hc22) (Nat.le_of_ble_eq_true rfl) (Nat.le_of_ble_eq_true rfl) (sd_X2_degreeAt hO0 g42 t2 _ (by show -120 ≤ a3.toInt ∧ a3.toInt ≤ 120; omega) pre0 (fun w43 hr44 => ?_))
    obtain ⟨x45, rfl, f46⟩ := hr44
    show uRun _ (uCall Mt _) _ 53 (_, [(.inl x45)], _, _, _)
    refine ur_ldA rfl rfl ?_
    refine ur_get rfl hc1 rfl ?_
    refine ur_inl rfl rfl (Nat.le_of_ble_eq_true rfl) (Nat.le_of_ble_eq_true rfl) (sd_X5_offLodge hO0 _ (by show 0 ≤ x45.toInt ∧ x45.toInt ≤ 359; omega) _ (by show 0 ≤ f10.toInt ∧ f10.toInt ≤ 23; omega) (fun w47 hr48 => ?_))
    obtain ⟨x49, rfl, f50⟩ := hr48
    show uRun _ (uCall Mt _) _ 60 (_, [(.inl x49)], _, _, _)
    refine ur_push rfl ?_
    refine ur_if2 rfl (fun c51 => ?_) (fun c51 => ?_)
    · have t52 := lt_to c51
      refine ur_push rfl ?_
      exact ur_ret rfl rfl (hQ _ _ ⟨false, rfl, fun e => absurd e (by decide), fun _ => (fun H => absurd (H.1 (by omega)) (by rw [← (by have q := f50.1; rw [f46.1, show f10.toInt = fO h0 a1 8 by omega] at q; exact q : x49.toInt = ofF _ _)]; omega))⟩ hO0 un.rf)
    · have t53 := lt_no c51
      refine ur_push rfl ?_
      refine ur_go rfl ?_
      exact ur_ret rfl rfl (hQ _ _ ⟨true, rfl, fun _ => ⟨fun _ => (by rw [← (by have q := f50.1; rw [f46.1, show f10.toInt = fO h0 a1 8 by omega] at q; exact q : x49.toInt = ofF _ _)]; omega), fun q => absurd q (by omega), fun q => absurd q (by omega), fun q => absurd q (by omega), fun q => absurd q (by omega)⟩, fun e => absurd e (by decide)⟩ hO0 un.rf)
  · refine ur_tabI rfl (by omega) (by rw [t21]; rfl) ?_
    refine ur_ldA rfl rfl ?_
    refine ur_ldI rfl rfl ?_
    refine ur_ldI rfl rfl ?_
    obtain ⟨g74, f55, f56, f57, f58, f59, f60, f61, f62, f63, f64, q65, q66, o67, q68, hc54, k69, k70, k71, k72, k73⟩ := hO0.comet t2
    refine ur_inl rfl (rcv_of hc54) (Nat.le_of_ble_eq_true rfl) (Nat.le_of_ble_eq_true rfl) (sd_X2_isWest hO0 g74 t2 _ (by show -120 ≤ a3.toInt ∧ a3.toInt ≤ 120; omega) _ (by show 0 ≤ a4.toInt ∧ a4.toInt ≤ 999999; omega) pre0 (fun w75 hr76 => ?_))
    obtain ⟨b77, rfl, t78, t79⟩ := hr76
    show uRun _ (uCall Mt _) _ 99 (_, [(.inl (bi b77))], _, _, _)
    refine ur_ldA rfl rfl ?_
    refine ur_get rfl hc1 rfl ?_
    refine ur_push rfl ?_
    refine ur_if2 rfl (fun c80 => ?_) (fun c80 => ?_)
    · have t81 := ne_to c80
      refine ur_push rfl ?_
      refine ur_if2 rfl (fun c82 => ?_) (fun c82 => ?_)
      · have t83 := ne_to c82
        have t84 := t78 (bz_n0 t83)
        refine ur_push rfl ?_
        exact ur_ret rfl rfl (hQ _ _ ⟨false, rfl, fun e => absurd e (by decide), fun _ => (fun H => absurd ((H.2.2.1 (by omega)).mp t84) (by omega))⟩ hO0 un.rf)
      · have t85 := ne_no c82
        have t86 := t79 (bz_0 t85)
        refine ur_push rfl ?_
        refine ur_go rfl ?_
        exact ur_ret rfl rfl (hQ _ _ ⟨true, rfl, fun _ => ⟨fun q => absurd q (by omega), fun q => absurd q (by omega), fun _ => ⟨fun q => absurd q t86, fun m => by exfalso; omega⟩, fun q => absurd q (by omega), fun q => absurd q (by omega)⟩, fun e => absurd e (by decide)⟩ hO0 un.rf)
    · have t87 := ne_no c80
      refine ur_push rfl ?_
      refine ur_go rfl ?_
      refine ur_if2 rfl (fun c88 => ?_) (fun c88 => ?_)
      · have t89 := ne_to c88
        have t90 := t79 (bz_n1 t89)
        refine ur_push rfl ?_
        exact ur_ret rfl rfl (hQ _ _ ⟨false, rfl, fun e => absurd e (by decide), fun _ => (fun H => t90 ((H.2.2.1 (by omega)).mpr (by omega)))⟩ hO0 un.rf)
      · have t91 := ne_no c88
        have t92 := t78 (bz_1 t91)
        refine ur_push rfl ?_
        refine ur_go rfl ?_
        exact ur_ret rfl rfl (hQ _ _ ⟨true, rfl, fun _ => ⟨fun q => absurd q (by omega), fun q => absurd q (by omega), fun _ => ⟨fun _ => by omega, fun _ => t92⟩, fun q => absurd q (by omega), fun q => absurd q (by omega)⟩, fun e => absurd e (by decide)⟩ hO0 un.rf)
  · refine ur_tabI rfl (by omega) (by rw [t21]; rfl) ?_
    refine ur_push rfl ?_
    exact ur_ret rfl rfl (hQ _ _ ⟨true, rfl, fun _ => ⟨fun q => absurd q (by omega), fun q => absurd q (by omega), fun q => absurd q (by omega), fun q => absurd q (by omega), fun q => absurd q (by omega)⟩, fun e => absurd e (by decide)⟩ hO0 un.rf)
  · refine ur_tabI rfl (by omega) (by rw [t21]; rfl) ?_
    refine ur_ldI rfl rfl ?_
    refine ur_absV rfl (by show ¬ 9 ≤ 1; decide) (fun x93 t94 e95 => ?_)
    have t96 := t94 (by omega)
    clear t94
    refine ur_push rfl ?_
    refine ur_if2 rfl (fun c97 => ?_) (fun c97 => ?_)
    · have t98 := lt_to c97
      refine ur_push rfl ?_
      exact ur_ret rfl rfl (hQ _ _ ⟨false, rfl, fun e => absurd e (by decide), fun _ => (fun H => absurd (H.2.2.2.1 (by omega)) (by unfold azI; split <;> omega))⟩ hO0 un.rf)
    · have t99 := lt_no c97
      refine ur_push rfl ?_
      refine ur_go rfl ?_
      exact ur_ret rfl rfl (hQ _ _ ⟨true, rfl, fun _ => ⟨fun q => absurd q (by omega), fun q => absurd q (by omega), fun q => absurd q (by omega), fun _ => (by unfold azI; split <;> omega), fun q => absurd q (by omega)⟩, fun e => absurd e (by decide)⟩ hO0 un.rf)
  · refine ur_tabI rfl (by omega) (by rw [t21]; rfl) ?_
    refine ur_ldA rfl rfl ?_
    refine ur_ldA rfl rfl ?_
    refine ur_ldA rfl rfl ?_
    refine ur_get rfl hc1 rfl ?_
    refine ur_ldI rfl rfl ?_
    refine ur_ldI rfl rfl ?_
    obtain ⟨f101, hc100, k102⟩ := ok_8 hO0
    refine ur_inl rfl (rcv_of hc100) (Nat.le_of_ble_eq_true rfl) (Nat.le_of_ble_eq_true rfl) (sd_X5_tailOf hO0 g2 t2 _ (by show 0 ≤ f4.toInt ∧ f4.toInt ≤ 8; omega) _ (by show -120 ≤ a3.toInt ∧ a3.toInt ≤ 120; omega) _ (by show 0 ≤ a4.toInt ∧ a4.toInt ≤ 999999; omega) pre0 pre1 pre2 (fun w103 h105 hr104 hO105 hv105 => ?_))
    have hu105 := hv105
    obtain ⟨x106, rfl, f107⟩ := hr104
    show uRun _ (uCall Mt _) _ 148 (_, [(.inl x106)], _, _, _)
    refine ur_if1 rfl (fun c108 => ?_) (fun c108 => ?_)
    · have t109 := ne_to c108
      refine ur_push rfl ?_
      exact ur_ret rfl rfl (hQ _ _ ⟨false, rfl, fun e => absurd e (by decide), fun _ => (fun H => absurd (H.2.2.2.2 (by omega)) (by have q := f107.1; rw [show f4.toInt = fO h0 a1 2 by omega] at q; rw [← q]; omega))⟩ hO105 hu105)
    · have t110 := ne_no c108
      refine ur_push rfl ?_
      refine ur_go rfl ?_
      exact ur_ret rfl rfl (hQ _ _ ⟨true, rfl, fun _ => ⟨fun q => absurd q (by omega), fun q => absurd q (by omega), fun q => absurd q (by omega), fun q => absurd q (by omega), fun _ => (by have q := f107.1; rw [show f4.toInt = fO h0 a1 2 by omega] at q; rw [← q]; omega)⟩, fun e => absurd e (by decide)⟩ hO105 hu105)
  · refine ur_tabI rfl (by omega) (by rw [t21]; rfl) ?_
    refine ur_ldA rfl rfl ?_
    refine ur_ldI rfl rfl ?_
    obtain ⟨g131, f112, f113, f114, f115, f116, f117, f118, f119, f120, f121, q122, q123, o124, q125, hc111, k126, k127, k128, k129, k130⟩ := hO0.comet t2
    refine ur_inl rfl (rcv_of hc111) (Nat.le_of_ble_eq_true rfl) (Nat.le_of_ble_eq_true rfl) (sd_X2_degreeAt hO0 g131 t2 _ (by show -120 ≤ a3.toInt ∧ a3.toInt ≤ 120; omega) pre0 (fun w132 hr133 => ?_))
    obtain ⟨x134, rfl, f135⟩ := hr133
    show uRun _ (uCall Mt _) _ 76 (_, [(.inl x134)], _, _, _)
    refine ur_ldA rfl rfl ?_
    refine ur_get rfl hc1 rfl ?_
    refine ur_inl rfl rfl (Nat.le_of_ble_eq_true rfl) (Nat.le_of_ble_eq_true rfl) (sd_X5_offLodge hO0 _ (by show 0 ≤ x134.toInt ∧ x134.toInt ≤ 359; omega) _ (by show 0 ≤ f10.toInt ∧ f10.toInt ≤ 23; omega) (fun w136 hr137 => ?_))
    obtain ⟨x138, rfl, f139⟩ := hr137
    show uRun _ (uCall Mt _) _ 83 (_, [(.inl x138)], _, _, _)
    refine ur_if1 rfl (fun c140 => ?_) (fun c140 => ?_)
    · have t141 := ne_to c140
      refine ur_push rfl ?_
      exact ur_ret rfl rfl (hQ _ _ ⟨false, rfl, fun e => absurd e (by decide), fun _ => (fun H => absurd (H.2.1 (by omega)) (by rw [← (by have q := f139.1; rw [f135.1, show f10.toInt = fO h0 a1 8 by omega] at q; exact q : x138.toInt = ofF _ _)]; omega))⟩ hO0 un.rf)
    · have t142 := ne_no c140
      refine ur_push rfl ?_
      refine ur_go rfl ?_
      exact ur_ret rfl rfl (hQ _ _ ⟨true, rfl, fun _ => ⟨fun q => absurd q (by omega), fun _ => (by rw [← (by have q := f139.1; rw [f135.1, show f10.toInt = fO h0 a1 8 by omega] at q; exact q : x138.toInt = ofF _ _)]; omega), fun q => absurd q (by omega), fun q => absurd q (by omega), fun q => absurd q (by omega)⟩, fun e => absurd e (by decide)⟩ hO0 un.rf)
  · refine ur_tabI rfl (by omega) (by rw [t21]; rfl) ?_
    refine ur_ldA rfl rfl ?_
    refine ur_ldI rfl rfl ?_
    refine ur_ldI rfl rfl ?_
    obtain ⟨g163, f144, f145, f146, f147, f148, f149, f150, f151, f152, f153, q154, q155, o156, q157, hc143, k158, k159, k160, k161, k162⟩ := hO0.comet t2
    refine ur_inl rfl (rcv_of hc143) (Nat.le_of_ble_eq_true rfl) (Nat.le_of_ble_eq_true rfl) (sd_X2_isWest hO0 g163 t2 _ (by show -120 ≤ a3.toInt ∧ a3.toInt ≤ 120; omega) _ (by show 0 ≤ a4.toInt ∧ a4.toInt ≤ 999999; omega) pre0 (fun w164 hr165 => ?_))
    obtain ⟨b166, rfl, t167, t168⟩ := hr165
    show uRun _ (uCall Mt _) _ 99 (_, [(.inl (bi b166))], _, _, _)
    refine ur_ldA rfl rfl ?_
    refine ur_get rfl hc1 rfl ?_
    refine ur_push rfl ?_
    refine ur_if2 rfl (fun c169 => ?_) (fun c169 => ?_)
    · have t170 := ne_to c169
      refine ur_push rfl ?_
      refine ur_if2 rfl (fun c171 => ?_) (fun c171 => ?_)
      · have t172 := ne_to c171
        have t173 := t167 (bz_n0 t172)
        refine ur_push rfl ?_
        exact ur_ret rfl rfl (hQ _ _ ⟨false, rfl, fun e => absurd e (by decide), fun _ => (fun H => absurd ((H.2.2.1 (by omega)).mp t173) (by omega))⟩ hO0 un.rf)
      · have t174 := ne_no c171
        have t175 := t168 (bz_0 t174)
        refine ur_push rfl ?_
        refine ur_go rfl ?_
        exact ur_ret rfl rfl (hQ _ _ ⟨true, rfl, fun _ => ⟨fun q => absurd q (by omega), fun q => absurd q (by omega), fun _ => ⟨fun q => absurd q t175, fun m => by exfalso; omega⟩, fun q => absurd q (by omega), fun q => absurd q (by omega)⟩, fun e => absurd e (by decide)⟩ hO0 un.rf)
    · have t176 := ne_no c169
      refine ur_push rfl ?_
      refine ur_go rfl ?_
      refine ur_if2 rfl (fun c177 => ?_) (fun c177 => ?_)
      · have t178 := ne_to c177
        have t179 := t168 (bz_n1 t178)
        refine ur_push rfl ?_
        exact ur_ret rfl rfl (hQ _ _ ⟨false, rfl, fun e => absurd e (by decide), fun _ => (fun H => t179 ((H.2.2.1 (by omega)).mpr (by omega)))⟩ hO0 un.rf)
      · have t180 := ne_no c177
        have t181 := t167 (bz_1 t180)
        refine ur_push rfl ?_
        refine ur_go rfl ?_
        exact ur_ret rfl rfl (hQ _ _ ⟨true, rfl, fun _ => ⟨fun q => absurd q (by omega), fun q => absurd q (by omega), fun _ => ⟨fun _ => by omega, fun _ => t181⟩, fun q => absurd q (by omega), fun q => absurd q (by omega)⟩, fun e => absurd e (by decide)⟩ hO0 un.rf)

set_option maxRecDepth 20000 in
set_option maxHeartbeats 4000000 in
theorem sd_X12_findFacts {d kc ks : Nat} {h0 : aH} {Q : Option aV → aH → Prop} (hO0 : OK h0) (a1 : Int32) (b1 : 0 ≤ a1.toInt ∧ a1.toInt ≤ 11) (a2 : Int32) (b2 : 0 ≤ a2.toInt ∧ a2.toInt ≤ 8) (a3 : Int32) (b3 : 0 ≤ a3.toInt ∧ a3.toInt ≤ 999999) (pre0 : 0 ≤ fI h0 15 ∧ fI h0 15 ≤ 359) (hQ : ∀ r h', (r = none) → OK h' → un [] h0 h' → (fI h' 15 = fI h0 15 ∧ fI h' 16 = fI h0 16 ∧ fI h' 17 = fI h0 17) → (nuM h' = nuL (Int32.ofInt (apF (fI h0 15 - a3.toInt % 360))) (Int32.ofInt (fI h0 16)) (Int32.ofInt (gI h0 77 a1.toInt)) (Int32.ofInt (fI h0 15)) (Int32.ofInt (fI h0 17)) (Int32.ofInt (a3.toInt % 30)) a2) → Q r h') : uCall Mt (d + 4) 206 [(.inr (.inr (some 69))), (.inl a1), (.inl a2), (.inl a3)] h0 kc ks Q := by
  have l_0 : ((0) : Int32).toInt = 0 := by decide
  have l_1 : ((1) : Int32).toInt = 1 := by decide
  have l_2 : ((2) : Int32).toInt = 2 := by decide
  have l_3 : ((3) : Int32).toInt = 3 := by decide
  have l_4 : ((4) : Int32).toInt = 4 := by decide
  have l_5 : ((5) : Int32).toInt = 5 := by decide
  have l_6 : ((6) : Int32).toInt = 6 := by decide
  have l_30 : ((30) : Int32).toInt = 30 := by decide
  refine uc_ink [some (.inr (.inr (some 69))), some (.inl a1), some (.inl a2), some (.inl a3), none] mt_206 (Nat.le_of_ble_eq_true rfl) rfl ?_
  obtain ⟨fs1, hc2⟩ := hO0.mod
  obtain ⟨f3, p4⟩ := mf_15 hO0 hc2
  have t5 := fI_of hc2 p4
  obtain ⟨f6, p7⟩ := mf_16 hO0 hc2
  have t8 := fI_of hc2 p7
  obtain ⟨f9, p10⟩ := mf_17 hO0 hc2
  have t11 := fI_of hc2 p10
  refine ur_push rfl ?_
  refine ur_svIk [some (.inr (.inr (some 69))), some (.inl a1), some (.inl a2), some (.inl a3), some (.inl 0)] rfl rfl ?_
  have L13 : ∀ (m14 : Nat) (x12 : Int32) (h16 : aH) , OK h16 → un [] h0 h16 → ((0 ≤ x12.toInt ∧ x12.toInt ≤ 10) ∧ fI h16 15 = fI h0 15 ∧ fI h16 16 = fI h0 16 ∧ fI h16 17 = fI h0 17) → (∀ k : Nat, (k : Int) < x12.toInt → (arI h16 88).getD k 0 = 0) → ((11 - x12.toInt).toNat) < m14 → uRun oX12_findFacts (uCall Mt (d + 3)) Q 3 ([some (.inr (.inr (some 69))), some (.inl a1), some (.inl a2), some (.inl a3), some (.inl x12)], [], h16, kc, ks) := by
    intro m14
    induction m14 with
    | zero => intro x12 h16 hO16 hu16 iv18 px17 mm19; omega
    | succ m14 ih15 =>
      intro x12 h16 hO16 hu16 iv18 px17 mm19
      obtain ⟨fs20, hc21⟩ := hO16.mod
      obtain ⟨f22, p23⟩ := mf_15 hO16 hc21
      have t24 := fI_of hc21 p23
      obtain ⟨f25, p26⟩ := mf_16 hO16 hc21
      have t27 := fI_of hc21 p26
      obtain ⟨f28, p29⟩ := mf_17 hO16 hc21
      have t30 := fI_of hc21 p29
      refine ur_ldI rfl rfl ?_
      refine ur_ldA rfl rfl ?_
      refine ur_get rfl hc21 (mf_29 hO16 hc21) ?_
      obtain ⟨xs32, hc31, hn33, he34⟩ := hO16.int (hO16.fix 88 (by decide) rfl)
      refine ur_lenV (m := 10) rfl hc31 hn33 (by decide) (fun x35 t36 => ?_)
      have z37 := any_r x12
      have z38 := any_r x35
      refine ur_if2 rfl (fun c39 => ?_) (fun c39 => ?_)
      · have t40 := le_to c39
        refine ur_ldA rfl rfl ?_
        refine ur_get rfl hc21 (mf_29 hO16 hc21) ?_
        refine ur_push rfl ?_
        refine ur_ldA rfl rfl ?_
        refine ur_ldI rfl rfl ?_
        refine ur_inl rfl (rcv_of hc21) (Nat.le_of_ble_eq_true rfl) (Nat.le_of_ble_eq_true rfl) (sd_X12_sunApart hO16 _ (by show 0 ≤ a3.toInt ∧ a3.toInt ≤ 999999; omega) (by omega) (fun w41 hr42 => ?_))
        obtain ⟨x43, rfl, f44⟩ := hr42
        show uRun _ (uCall Mt _) _ 37 (_, [(.inl x43), (.inl 0), (.inr (.inr (some 88)))], _, _, _)
        refine ur_astV (W := []) (m := 10) rfl hO16 hc31 (by decide) hn33 (by omega) (any_r _) (Or.inl rfl) (fun h47 hO47 hu47 d45 hc46 => ?_)
        have w48 : wI h16 h47 88 ((arI h16 88).set (0 : Int32).toInt.toNat x43) := ⟨by rw [arI_of hc46, arI_of hc31], d45⟩
        refine ur_ldA rfl rfl ?_
        refine ur_get rfl ((d45 _ (by decide)).trans hc21) (mf_29 hO47 ((d45 _ (by decide)).trans hc21)) ?_
        refine ur_push rfl ?_
        refine ur_ldA rfl rfl ?_
        refine ur_get rfl ((d45 _ (by decide)).trans hc21) p26 ?_
        obtain ⟨xs50, hc49, hn51, he52⟩ := hO47.int (hO47.fix 88 (by decide) rfl)
        refine ur_astV (W := []) (m := 10) rfl hO47 hc49 (by decide) hn51 (by omega) (any_r _) (Or.inl rfl) (fun h55 hO55 hu55 d53 hc54 => ?_)
        have w56 : wI h47 h55 88 ((arI h47 88).set (1 : Int32).toInt.toNat f25) := ⟨by rw [arI_of hc54, arI_of hc49], d53⟩
        refine ur_ldA rfl rfl ?_
        refine ur_get rfl ((d53 _ (by decide)).trans ((d45 _ (by decide)).trans hc21)) (mf_29 hO55 ((d53 _ (by decide)).trans ((d45 _ (by decide)).trans hc21))) ?_
        refine ur_push rfl ?_
        refine ur_ldA rfl rfl ?_
        refine ur_get rfl ((d53 _ (by decide)).trans ((d45 _ (by decide)).trans hc21)) (mf_10 hO55 ((d53 _ (by decide)).trans ((d45 _ (by decide)).trans hc21))) ?_
        refine ur_ldI rfl rfl ?_
        obtain ⟨xs58, hc57, hn59, he60⟩ := hO55.int (hO55.fix 77 (by decide) rfl)
        refine ur_aldV rfl hc57 hn59 (by omega) (fun x61 hx62 => ?_)
        have t63 := gI_of (j := a1) hc57 hx62
        have t64 := gI_keep (a := 77) (kd := 0) (n := 12) hO0 (hu16.tr (hu47.tr hu55)) (a1 : Int32).toInt (by decide) rfl (by decide) rfl (by decide) (by decide)
        obtain ⟨xs66, hc65, hn67, he68⟩ := hO55.int (hO55.fix 88 (by decide) rfl)
        refine ur_astV (W := []) (m := 10) rfl hO55 hc65 (by decide) hn67 (by omega) (any_r _) (Or.inl rfl) (fun h71 hO71 hu71 d69 hc70 => ?_)
        have w72 : wI h55 h71 88 ((arI h55 88).set (2 : Int32).toInt.toNat x61) := ⟨by rw [arI_of hc70, arI_of hc65], d69⟩
        refine ur_ldA rfl rfl ?_
        have hc73 := ((d69 _ (by decide)).trans ((d53 _ (by decide)).trans ((d45 _ (by decide)).trans hc21)))
        refine ur_get rfl hc73 (mf_29 hO71 hc73) ?_
        refine ur_push rfl ?_
        refine ur_ldA rfl rfl ?_
        refine ur_get rfl hc73 p23 ?_
        obtain ⟨xs75, hc74, hn76, he77⟩ := hO71.int (hO71.fix 88 (by decide) rfl)
        refine ur_astV (W := []) (m := 10) rfl hO71 hc74 (by decide) hn76 (by omega) (any_r _) (Or.inl rfl) (fun h80 hO80 hu80 d78 hc79 => ?_)
        have w81 : wI h71 h80 88 ((arI h71 88).set (3 : Int32).toInt.toNat f22) := ⟨by rw [arI_of hc79, arI_of hc74], d78⟩
        refine ur_ldA rfl rfl ?_
        refine ur_get rfl ((d78 _ (by decide)).trans hc73) (mf_29 hO80 ((d78 _ (by decide)).trans hc73)) ?_
        refine ur_push rfl ?_
        refine ur_ldA rfl rfl ?_
        refine ur_get rfl ((d78 _ (by decide)).trans hc73) p29 ?_
        obtain ⟨xs83, hc82, hn84, he85⟩ := hO80.int (hO80.fix 88 (by decide) rfl)
        refine ur_astV (W := []) (m := 10) rfl hO80 hc82 (by decide) hn84 (by omega) (any_r _) (Or.inl rfl) (fun h88 hO88 hu88 d86 hc87 => ?_)
        have w89 : wI h80 h88 88 ((arI h80 88).set (4 : Int32).toInt.toNat f28) := ⟨by rw [arI_of hc87, arI_of hc82], d86⟩
        refine ur_ldA rfl rfl ?_
        refine ur_get rfl ((d86 _ (by decide)).trans ((d78 _ (by decide)).trans hc73)) (mf_29 hO88 ((d86 _ (by decide)).trans ((d78 _ (by decide)).trans hc73))) ?_
        refine ur_push rfl ?_
        refine ur_ldI rfl rfl ?_
        refine ur_push rfl ?_
        refine ur_divV rfl (by decide) (fun x90 e91 => ?_)
        have z92 := any_r a3
        have t93 := ti_rem e91 l_30 (by decide) (by omega)
        obtain ⟨xs95, hc94, hn96, he97⟩ := hO88.int (hO88.fix 88 (by decide) rfl)
        refine ur_astV (W := []) (m := 10) rfl hO88 hc94 (by decide) hn96 (by omega) (any_r _) (Or.inl rfl) (fun h100 hO100 hu100 d98 hc99 => ?_)
        have w101 : wI h88 h100 88 ((arI h88 88).set (5 : Int32).toInt.toNat x90) := ⟨by rw [arI_of hc99, arI_of hc94], d98⟩
        refine ur_ldA rfl rfl ?_
        have hc102 := ((d98 _ (by decide)).trans ((d86 _ (by decide)).trans ((d78 _ (by decide)).trans hc73)))
        refine ur_get rfl hc102 (mf_29 hO100 hc102) ?_
        refine ur_push rfl ?_
        refine ur_ldI rfl rfl ?_
        obtain ⟨xs104, hc103, hn105, he106⟩ := hO100.int (hO100.fix 88 (by decide) rfl)
        refine ur_astV (W := []) (m := 10) rfl hO100 hc103 (by decide) hn105 (by omega) (any_r _) (Or.inl rfl) (fun h109 hO109 hu109 d107 hc108 => ?_)
        have w110 : wI h100 h109 88 ((arI h100 88).set (6 : Int32).toInt.toNat a2) := ⟨by rw [arI_of hc108, arI_of hc103], d107⟩
        have t111 := fI_of ((d107 _ (by decide)).trans hc102) p23
        have t112 := fI_of ((d107 _ (by decide)).trans hc102) p26
        have t113 := fI_of ((d107 _ (by decide)).trans hc102) p29
        exact ur_ret0 rfl (hQ _ _ rfl hO109 (hu16.tr (hu47.tr (hu55.tr (hu71.tr (hu80.tr (hu88.tr (hu100.tr hu109))))))) (by omega) (by rw [← (show x43 = Int32.ofInt (apF (fI h0 15 - a3.toInt % 360)) by rw [← Int32.ofInt_toInt x43]; exact congrArg Int32.ofInt (by have q := f44.1; rw [show fI h16 15 = fI h0 15 by omega] at q; exact q)), ← (show f25 = Int32.ofInt (fI h0 16) by rw [← Int32.ofInt_toInt f25]; exact congrArg Int32.ofInt (by omega)), ← (show x61 = Int32.ofInt (gI h0 77 a1.toInt) by rw [← Int32.ofInt_toInt x61]; exact congrArg Int32.ofInt (by omega)), ← (show f22 = Int32.ofInt (fI h0 15) by rw [← Int32.ofInt_toInt f22]; exact congrArg Int32.ofInt (by omega)), ← (show f28 = Int32.ofInt (fI h0 17) by rw [← Int32.ofInt_toInt f28]; exact congrArg Int32.ofInt (by omega)), ← (show x90 = Int32.ofInt (a3.toInt % 30) by rw [← Int32.ofInt_toInt x90]; exact congrArg Int32.ofInt (by omega))]; exact nuM_S hO16 (hA := h16) (fun k hk => px17 k (by omega)) (by rw [w110.1, w101.1, w89.1, w81.1, w72.1, w56.1, w48.1]; rfl)))
      · have t114 := le_no c39
        refine ur_ldA rfl rfl ?_
        refine ur_get rfl hc21 (mf_29 hO16 hc21) ?_
        refine ur_ldI rfl rfl ?_
        refine ur_push rfl ?_
        refine ur_astV (W := []) (m := 10) rfl hO16 hc31 (by decide) hn33 (by omega) (any_r _) (Or.inl rfl) (fun h117 hO117 hu117 d115 hc116 => ?_)
        have w118 : wI h16 h117 88 ((arI h16 88).set (x12 : Int32).toInt.toNat 0) := ⟨by rw [arI_of hc116, arI_of hc31], d115⟩
        refine ur_incV (fun z => [some (.inr (.inr (some 69))), some (.inl a1), some (.inl a2), some (.inl a3), some (.inl z)]) rfl rfl (fun _ => rfl) (fun x119 e120 => ?_)
        have t121 := ti_add e120 (by omega) (by omega)
        refine ur_go rfl ?_
        have t122 := fI_of ((d115 _ (by decide)).trans hc21) p23
        have t123 := fI_of ((d115 _ (by decide)).trans hc21) p26
        have t124 := fI_of ((d115 _ (by decide)).trans hc21) p29
        have z125 := any_r x119
        exact ih15 x119 _ hO117 (hu16.tr hu117) (by omega) (zf_s px17 w118.1 ⟨by omega, by omega, rfl⟩) (by omega)
  exact L13 _ 0 _ hO0 un.rf (by omega) (fun k hk => absurd hk (by omega)) (Nat.lt_succ_self _)

set_option maxRecDepth 20000 in
set_option maxHeartbeats 4000000 in
theorem sd_X12_tailNow {d kc ks : Nat} {h0 : aH} {Q : Option aV → aH → Prop} {ls : List (List (Int × Int) × List (Int × Int))} (hO0 : OK h0) (hX0 : SX h0) (a1 : Int32) (b1 : 0 ≤ a1.toInt ∧ a1.toInt ≤ 11) (a2 : Int32) (b2 : 0 ≤ a2.toInt ∧ a2.toInt ≤ 8) (a3 : Int32) (b3 : 0 ≤ a3.toInt ∧ a3.toInt ≤ 999999) (pre0 : 0 ≤ fI h0 15 ∧ fI h0 15 ≤ 359) (pre1 : RLn h0 1 ls) (pre2 : ∀ l ∈ ls, lnG l) (hQ : ∀ r h', (∃ x : Int32, r = some (.inl x) ∧ (x.toInt = tlN ls (apF (fI h0 15 - a3.toInt % 360)) (fI h0 16) (gI h0 77 a1.toInt) (fI h0 15) (fI h0 17) (a3.toInt % 30) a2.toInt ∧ 0 ≤ x.toInt ∧ x.toInt ≤ 99)) → OK h' → un [] h0 h' → Q r h') : uCall Mt (d + 5) 207 [(.inr (.inr (some 69))), (.inl a1), (.inl a2), (.inl a3)] h0 kc ks Q := by
  have l_0 : ((0) : Int32).toInt = 0 := by decide
  have l_1 : ((1) : Int32).toInt = 1 := by decide
  have l_99 : ((99) : Int32).toInt = 99 := by decide
  refine uc_ink [some (.inr (.inr (some 69))), some (.inl a1), some (.inl a2), some (.inl a3), none] mt_207 (Nat.le_of_ble_eq_true rfl) rfl ?_
  obtain ⟨fs1, hc2⟩ := hO0.mod
  obtain ⟨f3, p4⟩ := mf_15 hO0 hc2
  have t5 := fI_of hc2 p4
  obtain ⟨f6, p7⟩ := mf_16 hO0 hc2
  have t8 := fI_of hc2 p7
  obtain ⟨f9, p10⟩ := mf_17 hO0 hc2
  have t11 := fI_of hc2 p10
  refine ur_ldA rfl rfl ?_
  refine ur_ldI rfl rfl ?_
  refine ur_ldI rfl rfl ?_
  refine ur_ldI rfl rfl ?_
  refine ur_inl rfl (rcv_of hc2) (Nat.le_of_ble_eq_true rfl) (Nat.le_of_ble_eq_true rfl) (sd_X12_findFacts hO0 _ (by show 0 ≤ a1.toInt ∧ a1.toInt ≤ 11; omega) _ (by show 0 ≤ a2.toInt ∧ a2.toInt ≤ 8; omega) _ (by show 0 ≤ a3.toInt ∧ a3.toInt ≤ 999999; omega) (by omega) (fun w12 h16 hr13 hO16 hv16 hp14 hp15 => ?_))
  have hu16 := hv16
  subst hr13
  show uRun _ (uCall Mt _) _ 7 (_, [], _, _, _)
  refine ur_ldA rfl rfl ?_
  obtain ⟨fs17, hc18⟩ := hO16.mod
  refine ur_get rfl hc18 (mf_26 hO16 hc18) ?_
  refine ur_push rfl ?_
  obtain ⟨xs20, hc19, hn21, he22⟩ := hO16.int (hO16.fix 85 (by decide) rfl)
  refine ur_aldV rfl hc19 hn21 (by omega) (fun x23 hx24 => ?_)
  have t25 : 0 ≤ x23.toInt ∧ x23.toInt ≤ 61 := he22 _ _ hx24
  have tt26 : x23.toInt = (ls.length : Int) := by have q := gd5 hc19 hx24 (arI_keep (a := 85) hO0 hu16 (by decide) rfl (by decide) rfl (by decide) (by decide)); rw [show iN (1 : Int32) = 1 from rfl] at q; rw [← pre1.2.2.1, q]
  refine ur_if1 rfl (fun c27 => ?_) (fun c27 => ?_)
  · have t28 := ne_to c27
    refine ur_ldA rfl rfl ?_
    refine ur_push rfl ?_
    refine ur_inl rfl (rcv_of hc18) (Nat.le_of_ble_eq_true rfl) (Nat.le_of_ble_eq_true rfl) (st_X12_gives hO16 (hX0.un hO0 hO16 hu16 (by decide)) _ (by show 0 ≤ (1 : Int32).toInt ∧ (1 : Int32).toInt ≤ 10; omega) (show RLn h16 1 ls from pre1.keep (KN.un hO0 hu16 (by decide) (by decide) (by decide) (by decide) (by decide)) (by decide)) pre2 (fun w29 h32 hr30 hO32 hv32 hp31 => ?_))
    have hu32 := hv32
    obtain ⟨x33, rfl, f34⟩ := hr30
    show uRun _ (uCall Mt _) _ 25 (_, [(.inl x33)], _, _, _)
    obtain ⟨f35, p36⟩ := mf_15 hO16 hc18
    have t37 := fI_of hc18 p36
    have tt38 : fI h32 15 = fI h16 15 := fI_69 hp31
    obtain ⟨f39, p40⟩ := mf_16 hO16 hc18
    have t41 := fI_of hc18 p40
    have tt42 : fI h32 16 = fI h16 16 := fI_69 hp31
    obtain ⟨f43, p44⟩ := mf_17 hO16 hc18
    have t45 := fI_of hc18 p44
    have tt46 : fI h32 17 = fI h16 17 := fI_69 hp31
    refine ur_svIk [some (.inr (.inr (some 69))), some (.inl a1), some (.inl a2), some (.inl a3), some (.inl x33)] rfl rfl ?_
    refine ur_ldI rfl rfl ?_
    refine ur_if1 rfl (fun c47 => ?_) (fun c47 => ?_)
    · have t48 := le_to c47
      refine ur_ldI rfl rfl ?_
      refine ur_push rfl ?_
      refine ur_if2 rfl (fun c49 => ?_) (fun c49 => ?_)
      · have t50 := le_to c49
        refine ur_ldI rfl rfl ?_
        obtain ⟨fs51, hc52⟩ := hO32.mod
        obtain ⟨f53, p54⟩ := mf_15 hO32 hc52
        have t55 := fI_of hc52 p54
        obtain ⟨f56, p57⟩ := mf_16 hO32 hc52
        have t58 := fI_of hc52 p57
        obtain ⟨f59, p60⟩ := mf_17 hO32 hc52
        have t61 := fI_of hc52 p60
        exact ur_ret rfl rfl (hQ _ _ ⟨_, rfl, ⟨by rw [tlN_t (fun q => by have := congrArg List.length q; rw [List.length_nil] at this; omega), ← (tvF_m (f34.trans (by rw [hp15])))]; unfold clF; split <;> (try split) <;> omega, by omega⟩⟩ hO32 (hu16.tr hu32))
      · have t62 := le_no c49
        refine ur_push rfl ?_
        refine ur_go rfl ?_
        obtain ⟨fs63, hc64⟩ := hO32.mod
        obtain ⟨f65, p66⟩ := mf_15 hO32 hc64
        have t67 := fI_of hc64 p66
        obtain ⟨f68, p69⟩ := mf_16 hO32 hc64
        have t70 := fI_of hc64 p69
        obtain ⟨f71, p72⟩ := mf_17 hO32 hc64
        have t73 := fI_of hc64 p72
        exact ur_ret rfl rfl (hQ _ _ ⟨_, rfl, ⟨by rw [tlN_t (fun q => by have := congrArg List.length q; rw [List.length_nil] at this; omega), ← (tvF_m (f34.trans (by rw [hp15])))]; unfold clF; split <;> (try split) <;> omega, by omega⟩⟩ hO32 (hu16.tr hu32))
    · have t74 := le_no c47
      refine ur_push rfl ?_
      refine ur_go rfl ?_
      obtain ⟨fs75, hc76⟩ := hO32.mod
      obtain ⟨f77, p78⟩ := mf_15 hO32 hc76
      have t79 := fI_of hc76 p78
      obtain ⟨f80, p81⟩ := mf_16 hO32 hc76
      have t82 := fI_of hc76 p81
      obtain ⟨f83, p84⟩ := mf_17 hO32 hc76
      have t85 := fI_of hc76 p84
      exact ur_ret rfl rfl (hQ _ _ ⟨_, rfl, ⟨by rw [tlN_t (fun q => by have := congrArg List.length q; rw [List.length_nil] at this; omega), ← (tvF_m (f34.trans (by rw [hp15])))]; unfold clF; split <;> (try split) <;> omega, by omega⟩⟩ hO32 (hu16.tr hu32))
  · have t86 := ne_no c27
    refine ur_push rfl ?_
    refine ur_go rfl ?_
    refine ur_svIk [some (.inr (.inr (some 69))), some (.inl a1), some (.inl a2), some (.inl a3), some (.inl 0)] rfl rfl ?_
    refine ur_ldI rfl rfl ?_
    refine ur_if1t rfl (by decide) ?_
    refine ur_ldI rfl rfl ?_
    refine ur_push rfl ?_
    refine ur_if2t rfl (by decide) ?_
    refine ur_ldI rfl rfl ?_
    obtain ⟨f87, p88⟩ := mf_15 hO16 hc18
    have t89 := fI_of hc18 p88
    obtain ⟨f90, p91⟩ := mf_16 hO16 hc18
    have t92 := fI_of hc18 p91
    obtain ⟨f93, p94⟩ := mf_17 hO16 hc18
    have t95 := fI_of hc18 p94
    exact ur_ret rfl rfl (hQ _ _ ⟨_, rfl, ⟨by rw [tlN_n (List.length_eq_zero_iff.mp (by omega))]; omega, by omega⟩⟩ hO16 hu16)

set_option maxRecDepth 20000 in
set_option maxHeartbeats 4000000 in
theorem sd_X12_canSee {d kc ks : Nat} {h0 : aH} {Q : Option aV → aH → Prop} {ls : List (List (Int × Int) × List (Int × Int))} (hO0 : OK h0) (hX0 : SX h0) (a1 : Int32) (b1 : 0 ≤ a1.toInt ∧ a1.toInt ≤ 11) (a2 : Int32) (b2 : -20000 ≤ a2.toInt ∧ a2.toInt ≤ 1020000) (a3 : Int32) (b3 : 0 ≤ a3.toInt ∧ a3.toInt ≤ 8) (a4 : Int32) (b4 : 0 ≤ a4.toInt ∧ a4.toInt ≤ 999999) (pre0 : SKm h0) (pre1 : a1.toInt < fI h0 4) (pre2 : RLn h0 0 ls) (pre3 : ∀ l ∈ ls, lnG l) (hQ : ∀ r h', (∃ q, r = some (.inl (bi q)) ∧ (q = true → canP ls (gI h0 74 a1.toInt) (gI h0 76 a1.toInt) (gI h0 75 a1.toInt) (gI h0 77 a1.toInt) a3.toInt a2.toInt a4.toInt) ∧ (q = false → ¬ canP ls (gI h0 74 a1.toInt) (gI h0 76 a1.toInt) (gI h0 75 a1.toInt) (gI h0 77 a1.toInt) a3.toInt a2.toInt a4.toInt)) → OK h' → un [] h0 h' → (fI h' 17 = (a4.toInt - a2.toInt) ∧ ((-120 ≤ (a4.toInt - a2.toInt) ∧ (a4.toInt - a2.toInt) ≤ 120) → fI h' 15 = dgF (gI h0 74 a1.toInt) (gI h0 76 a1.toInt) (gI h0 75 a1.toInt) (a4.toInt - a2.toInt) ∧ (0 ≤ fI h' 15 ∧ fI h' 15 ≤ 359) ∧ fI h' 16 = gI h0 75 a1.toInt + azI (a4.toInt - a2.toInt))) → Q r h') : uCall Mt (d + 5) 208 [(.inr (.inr (some 69))), (.inl a1), (.inl a2), (.inl a3), (.inl a4)] h0 kc ks Q := by
  have l_0 : ((0) : Int32).toInt = 0 := by decide
  have l_1 : ((1) : Int32).toInt = 1 := by decide
  have l_15 : ((15) : Int32).toInt = 15 := by decide
  refine uc_ink [some (.inr (.inr (some 69))), some (.inl a1), some (.inl a2), some (.inl a3), some (.inl a4)] mt_208 (Nat.le_of_ble_eq_true rfl) rfl ?_
  obtain ⟨fs1, hc2⟩ := hO0.mod
  obtain ⟨f3, p4, t5⟩ := mf_4 hO0 hc2
  have t6 := fI_of hc2 p4
  obtain ⟨f7, p8⟩ := mf_15 hO0 hc2
  have t9 := fI_of hc2 p8
  obtain ⟨f10, p11⟩ := mf_16 hO0 hc2
  have t12 := fI_of hc2 p11
  obtain ⟨f13, p14⟩ := mf_17 hO0 hc2
  have t15 := fI_of hc2 p14
  refine ur_ldA rfl rfl ?_
  refine ur_ldI rfl rfl ?_
  refine ur_ldI rfl rfl ?_
  refine ur_ldI rfl rfl ?_
  refine ur_inl rfl (rcv_of hc2) (Nat.le_of_ble_eq_true rfl) (Nat.le_of_ble_eq_true rfl) (sd_X12_standsOn hO0 hX0 _ (by show 0 ≤ a1.toInt ∧ a1.toInt ≤ 11; omega) _ (by show -20000 ≤ a2.toInt ∧ a2.toInt ≤ 1020000; omega) _ (by show 0 ≤ a4.toInt ∧ a4.toInt ≤ 999999; omega) pre0 (by omega) (fun w16 h19 hr17 hO19 hv19 hp18 => ?_))
  have hu19 := hv19
  obtain ⟨b20, rfl, t21, t22⟩ := hr17
  show uRun _ (uCall Mt _) _ 8 (_, [(.inl (bi b20))], _, _, _)
  refine ur_eqB rfl (fun c23 => ?_) (fun c23 => ?_)
  · have t24 := t22 c23
    clear t21 t22
    refine ur_push rfl ?_
    obtain ⟨fs25, hc26⟩ := hO19.mod
    obtain ⟨f27, p28, t29⟩ := mf_4 hO19 hc26
    have t30 := fI_of hc26 p28
    obtain ⟨f31, p32⟩ := mf_15 hO19 hc26
    have t33 := fI_of hc26 p32
    obtain ⟨f34, p35⟩ := mf_16 hO19 hc26
    have t36 := fI_of hc26 p35
    obtain ⟨f37, p38⟩ := mf_17 hO19 hc26
    have t39 := fI_of hc26 p38
    have t40 := fI_keep (k := 4) hO0 hO19 hu19 rfl (by decide)
    exact ur_ret rfl rfl (hQ _ _ ⟨false, rfl, fun e => absurd e (by decide), fun _ => (fun q => absurd q.1 (by omega))⟩ hO19 hu19 ⟨by have u := hp18.1; omega, fun q => by exfalso; omega⟩)
  · have t41 := t21 c23
    clear t21 t22
    have so42 := hp18.2 (by omega)
    have tt43 := so42.2.1
    refine ur_ldA rfl rfl ?_
    refine ur_ldI rfl rfl ?_
    obtain ⟨fs44, hc45⟩ := hO19.mod
    obtain ⟨f46, p47⟩ := mf_15 hO19 hc45
    have t48 := fI_of hc45 p47
    have t49 := fI_keep (k := 4) hO0 hO19 hu19 rfl (by decide)
    refine ur_inl rfl (rcv_of hc45) (Nat.le_of_ble_eq_true rfl) (Nat.le_of_ble_eq_true rfl) (sd_X12_sunApart hO19 _ (by show 0 ≤ a4.toInt ∧ a4.toInt ≤ 999999; omega) (by omega) (fun w50 hr51 => ?_))
    obtain ⟨x52, rfl, f53⟩ := hr51
    show uRun _ (uCall Mt _) _ 17 (_, [(.inl x52)], _, _, _)
    refine ur_push rfl ?_
    refine ur_if2 rfl (fun c54 => ?_) (fun c54 => ?_)
    · have t55 := le_to c54
      refine ur_ldA rfl rfl ?_
      refine ur_get rfl hc45 (mf_26 hO19 hc45) ?_
      refine ur_push rfl ?_
      obtain ⟨xs57, hc56, hn58, he59⟩ := hO19.int (hO19.fix 85 (by decide) rfl)
      refine ur_aldV rfl hc56 hn58 (by omega) (fun x60 hx61 => ?_)
      have t62 : 0 ≤ x60.toInt ∧ x60.toInt ≤ 61 := he59 _ _ hx61
      have tt63 : x60.toInt = (ls.length : Int) := by have q := gd5 hc56 hx61 (arI_keep (a := 85) hO0 hu19 (by decide) rfl (by decide) rfl (by decide) (by decide)); rw [show iN (0 : Int32) = 0 from rfl] at q; rw [← pre2.2.2.1, q]
      refine ur_if1 rfl (fun c64 => ?_) (fun c64 => ?_)
      · have t65 := ne_to c64
        refine ur_ldA rfl rfl ?_
        refine ur_ldI rfl rfl ?_
        refine ur_ldI rfl rfl ?_
        refine ur_ldI rfl rfl ?_
        obtain ⟨f66, p67⟩ := mf_16 hO19 hc45
        have t68 := fI_of hc45 p67
        obtain ⟨f69, p70⟩ := mf_17 hO19 hc45
        have t71 := fI_of hc45 p70
        refine ur_inl rfl (rcv_of hc45) (Nat.le_of_ble_eq_true rfl) (Nat.le_of_ble_eq_true rfl) (sd_X12_findFacts hO19 _ (by show 0 ≤ a1.toInt ∧ a1.toInt ≤ 11; omega) _ (by show 0 ≤ a3.toInt ∧ a3.toInt ≤ 8; omega) _ (by show 0 ≤ a4.toInt ∧ a4.toInt ≤ 999999; omega) (by omega) (fun w72 h76 hr73 hO76 hv76 hp74 hp75 => ?_))
        have hu76 := hv76
        subst hr73
        show uRun _ (uCall Mt _) _ 43 (_, [], _, _, _)
        refine ur_ldA rfl rfl ?_
        refine ur_push rfl ?_
        obtain ⟨fs77, hc78⟩ := hO76.mod
        have t79 := fI_keep (k := 4) hO0 hO76 (hu19.tr hu76) rfl (by decide)
        refine ur_inl rfl (rcv_of hc78) (Nat.le_of_ble_eq_true rfl) (Nat.le_of_ble_eq_true rfl) (st_X12_gives hO76 (hX0.un hO0 hO76 (hu19.tr hu76) (by decide)) _ (by show 0 ≤ (0 : Int32).toInt ∧ (0 : Int32).toInt ≤ 10; omega) (show RLn h76 0 ls from pre2.keep (KN.un hO0 (hu19.tr hu76) (by decide) (by decide) (by decide) (by decide) (by decide)) (by decide)) pre3 (fun w80 h83 hr81 hO83 hv83 hp82 => ?_))
        have hu83 := hv83
        obtain ⟨x84, rfl, f85⟩ := hr81
        show uRun _ (uCall Mt _) _ 48 (_, [(.inl x84)], _, _, _)
        obtain ⟨f86, p87⟩ := mf_15 hO76 hc78
        have t88 := fI_of hc78 p87
        have tt89 : fI h83 15 = fI h76 15 := fI_69 hp82
        obtain ⟨f90, p91⟩ := mf_16 hO76 hc78
        have t92 := fI_of hc78 p91
        have tt93 : fI h83 16 = fI h76 16 := fI_69 hp82
        obtain ⟨f94, p95⟩ := mf_17 hO76 hc78
        have t96 := fI_of hc78 p95
        have tt97 : fI h83 17 = fI h76 17 := fI_69 hp82
        refine ur_if1 rfl (fun c98 => ?_) (fun c98 => ?_)
        · have t99 := eq_to c98
          refine ur_push rfl ?_
          obtain ⟨fs100, hc101⟩ := hO83.mod
          obtain ⟨f102, p103, t104⟩ := mf_4 hO83 hc101
          have t105 := fI_of hc101 p103
          obtain ⟨f106, p107⟩ := mf_15 hO83 hc101
          have t108 := fI_of hc101 p107
          obtain ⟨f109, p110⟩ := mf_16 hO83 hc101
          have t111 := fI_of hc101 p110
          obtain ⟨f112, p113⟩ := mf_17 hO83 hc101
          have t114 := fI_of hc101 p113
          have t115 := fI_keep (k := 4) hO0 hO83 (hu19.tr (hu76.tr hu83)) rfl (by decide)
          exact ur_ret rfl rfl (hQ _ _ ⟨false, rfl, fun e => absurd e (by decide), fun _ => (fun q => q.2.2.elim (fun w => by have := congrArg List.length w; rw [List.length_nil] at this; omega) (fun w => w (by rw [← (show x84.toInt = tdV ls (gI h0 74 a1.toInt) (gI h0 76 a1.toInt) (gI h0 75 a1.toInt) (gI h0 77 a1.toInt) a3.toInt (a4.toInt - a2.toInt) a4.toInt from (by have w := tvF_m (f85.trans (by rw [hp75])); have u := hp18; rw [so42.1, so42.2.2, u.1, (gI_keep (a := 77) (kd := 0) (n := 12) hO0 hu19 a1.toInt (by decide) rfl (by decide) rfl (by decide) (by decide))] at w; exact w))]; omega)))⟩ hO83 (hu19.tr (hu76.tr hu83)) ⟨by have u := hp18.1; omega, fun _ => ⟨by have u := so42.1; omega, by omega, by have u := so42.2.2; omega⟩⟩)
        · have t116 := eq_no c98
          refine ur_push rfl ?_
          refine ur_go rfl ?_
          obtain ⟨fs117, hc118⟩ := hO83.mod
          obtain ⟨f119, p120, t121⟩ := mf_4 hO83 hc118
          have t122 := fI_of hc118 p120
          obtain ⟨f123, p124⟩ := mf_15 hO83 hc118
          have t125 := fI_of hc118 p124
          obtain ⟨f126, p127⟩ := mf_16 hO83 hc118
          have t128 := fI_of hc118 p127
          obtain ⟨f129, p130⟩ := mf_17 hO83 hc118
          have t131 := fI_of hc118 p130
          have t132 := fI_keep (k := 4) hO0 hO83 (hu19.tr (hu76.tr hu83)) rfl (by decide)
          exact ur_ret rfl rfl (hQ _ _ ⟨true, rfl, fun _ => ⟨by omega, (by have w := f53.1; rw [so42.1] at w; omega), Or.inr (by rw [← (show x84.toInt = tdV ls (gI h0 74 a1.toInt) (gI h0 76 a1.toInt) (gI h0 75 a1.toInt) (gI h0 77 a1.toInt) a3.toInt (a4.toInt - a2.toInt) a4.toInt from (by have w := tvF_m (f85.trans (by rw [hp75])); have u := hp18; rw [so42.1, so42.2.2, u.1, (gI_keep (a := 77) (kd := 0) (n := 12) hO0 hu19 a1.toInt (by decide) rfl (by decide) rfl (by decide) (by decide))] at w; exact w))]; omega)⟩, fun e => absurd e (by decide)⟩ hO83 (hu19.tr (hu76.tr hu83)) ⟨by have u := hp18.1; omega, fun _ => ⟨by have u := so42.1; omega, by omega, by have u := so42.2.2; omega⟩⟩)
      · have t133 := ne_no c64
        refine ur_push rfl ?_
        obtain ⟨f134, p135, t136⟩ := mf_4 hO19 hc45
        have t137 := fI_of hc45 p135
        obtain ⟨f138, p139⟩ := mf_16 hO19 hc45
        have t140 := fI_of hc45 p139
        obtain ⟨f141, p142⟩ := mf_17 hO19 hc45
        have t143 := fI_of hc45 p142
        exact ur_ret rfl rfl (hQ _ _ ⟨true, rfl, fun _ => ⟨by omega, (by have w := f53.1; rw [so42.1] at w; omega), Or.inl (List.length_eq_zero_iff.mp (by omega))⟩, fun e => absurd e (by decide)⟩ hO19 hu19 ⟨by have u := hp18.1; omega, fun _ => ⟨by have u := so42.1; omega, by omega, by have u := so42.2.2; omega⟩⟩)
    · have t144 := le_no c54
      refine ur_push rfl ?_
      obtain ⟨f145, p146, t147⟩ := mf_4 hO19 hc45
      have t148 := fI_of hc45 p146
      obtain ⟨f149, p150⟩ := mf_16 hO19 hc45
      have t151 := fI_of hc45 p150
      obtain ⟨f152, p153⟩ := mf_17 hO19 hc45
      have t154 := fI_of hc45 p153
      exact ur_ret rfl rfl (hQ _ _ ⟨false, rfl, fun e => absurd e (by decide), fun _ => (fun q => absurd q.2.1 (by have w := f53.1; rw [so42.1] at w; omega))⟩ hO19 hu19 ⟨by have u := hp18.1; omega, fun _ => ⟨by have u := so42.1; omega, by omega, by have u := so42.2.2; omega⟩⟩)
end SG2
