/-! THE SKY of the class; printed by program but for its head -/
section SKY4
noncomputable def NXh (h : aH) (sp : Int) : Int → Int := nxF (gI h 2) (gI h 3) (fO h 1 2) sp
/-- the comet at a place -/
def cz (h : aH) (c : Int) (z : Nat) : Prop := (arR h 4)[c.toNat]? = some (some z)
theorem cz_u {h : aH} {c : Int} {y z : Nat} (a : cz h c y) (b : cz h c z) : y = z := by
  unfold cz at a b
  rw [a] at b
  cases b
  rfl
theorem cz_c {h h' : aH} {c : Int} {z : Nat} (e : arR h' 4 = arR h 4) (w : cz h' c z) : cz h c z := by
  unfold cz at w ⊢
  rw [← e]
  exact w
theorem cz_ok {h : aH} (hO : OK h) {c : Int} {z : Nat} (w : cz h c z) : 114 ≤ z ∧ tg h z = (102, 14) := by
  obtain ⟨xs, hc, hn, he⟩ := hO.com (hO.fix 4 (by decide) rfl)
  unfold cz at w
  rw [arR_of hc] at w
  exact he _ z w
theorem arR4_len {h : aH} (hO : OK h) : (arR h 4).length = 12 := by
  obtain ⟨xs, hc, hn, he⟩ := hO.com (hO.fix 4 (by decide) rfl)
  rw [arR_of hc]
  exact hn
theorem arR_u4 {W : List Nat} {h h' : aH} (hO : OK h) (g : un W h h') (h1 : 4 ∉ W) : arR h' 4 = arR h 4 := by
  obtain ⟨xs, hc, hn, he⟩ := hO.com (hO.fix 4 (by decide) rfl)
  rw [arR_of hc, arR_of (g.ka hc hn (by decide) (by decide) (wid_f (by decide)) h1)]
theorem arI_p {W : List Nat} {h h' : aH} {q : Nat} (hO : OK h) (g : un W h h') (gq : 114 ≤ q) (t : tg h q = (0, 121)) (hw : 221 ∉ W) : arI h' q = arI h q := by
  obtain ⟨xs, hc, hn, he⟩ := hO.int t
  rw [arI_of hc, arI_of (g.ka (n := 121) hc hn (scA_d gq) (by decide) (wid_p gq) hw)]
theorem gI_f {h h' : aH} {a : Nat} (e : h'[a]? = h[a]?) : gI h' a = gI h a := funext fun j => gI_e (arI_c e) j
theorem fO_c {h h' : aH} {z : Nat} (e : h'[z]? = h[z]?) (k : Nat) : fO h' z k = fO h z k := fO_eA (fA_c e k)
/-- what a comet's numbers lie between -/
def CMr (c p s nd rc w b pa : Int) : Prop := (0 ≤ p ∧ p ≤ 999999) ∧ (200 - 30 * c ≤ s ∧ s ≤ 40000 + 30 * c) ∧ (0 ≤ nd ∧ nd ≤ 359) ∧ (5 ≤ rc ∧ rc ≤ 99) ∧ (w = 1 ∨ w = -1) ∧ (0 ≤ b ∧ b ≤ 9) ∧ -1 ≤ pa ∧ pa < c
def CMz (h : aH) (c : Int) (z : Nat) : Prop := CMr c (fO h z 0) (fO h z 1) (fO h z 2) (fO h z 3) (fO h z 4) (fO h z 5) (fO h z 6)
theorem CMz_e {h h' : aH} {c : Int} {z : Nat} (g : CMz h c z) (e : ∀ k, k < 7 → fA h' z k = fA h z k) : CMz h' c z := by
  unfold CMz
  rw [fO_eA (e 0 (by decide)), fO_eA (e 1 (by decide)), fO_eA (e 2 (by decide)), fO_eA (e 3 (by decide)), fO_eA (e 4 (by decide)), fO_eA (e 5 (by decide)), fO_eA (e 6 (by decide))]
  exact g
/-- the sky of the class; the returns of the first i comets are reckoned -/
def SKi (h : aH) (i : Int) : Prop := RPc h ∧ (∀ c : Int, 0 ≤ c → c < fO h 1 4 → ∃ z, cz h c z ∧ CMz h c z ∧ (c < i → isRe (NXh h (fO h z 1)) (fO h z 1) (fO h z 0) (cf h z) (fO h z 8) (fO h z 9))) ∧ ∀ (c d : Int) (y z : Nat), 0 ≤ c → c < fO h 1 4 → 0 ≤ d → d < fO h 1 4 → c ≠ d → cz h c y → cz h d z → y ≠ z ∧ qP h y ≠ qP h z
def SKc (h : aH) : Prop := SKi h (fO h 1 4)
theorem cf_e {h h' : aH} {z : Nat} (e8 : fA h' z 8 = fA h z 8) (e9 : fA h' z 9 = fA h z 9) (e10 : fA h' z 10 = fA h z 10) (ea : arI h' (qP h z) = arI h (qP h z)) : cf h' z = cf h z := by
  funext k
  unfold cf
  rw [fO_eA e8, fO_eA e9, qP_e e10, gI_e ea]
theorem SKi.move {h h' : aH} {i : Int} (g : SKi h i) (hr : RPc h') (n : fO h' 1 4 = fO h 1 4) (a4 : arR h' 4 = arR h 4) (nx : ∀ sp, NXh h' sp = NXh h sp) (hc : ∀ (c : Int) (z : Nat), 0 ≤ c → c < fO h 1 4 → cz h c z → (∀ k, k < 11 → k ≠ 7 → fA h' z k = fA h z k) ∧ arI h' (qP h z) = arI h (qP h z)) : SKi h' i := by
  obtain ⟨-, g2, g3⟩ := g
  refine ⟨hr, fun c c0 c1 => ?_, fun c d y z c0 c1 d0 d1 cd wy wz => ?_⟩
  · rw [n] at c1
    obtain ⟨z, w, p1, p3⟩ := g2 c c0 c1
    obtain ⟨e, ea⟩ := hc c z c0 c1 w
    have e8 := e 8 (by decide) (by decide)
    have e9 := e 9 (by decide) (by decide)
    refine ⟨z, cz_c a4.symm w, CMz_e p1 (fun k hk => e k (by omega) (by omega)), ?_⟩
    rw [fO_eA (e 0 (by decide) (by decide)), fO_eA (e 1 (by decide) (by decide)), nx, cf_e e8 e9 (e 10 (by decide) (by decide)) ea, fO_eA e8, fO_eA e9]
    exact p3
  · rw [n] at c1 d1
    have wy := cz_c a4 wy
    have wz := cz_c a4 wz
    rw [qP_e ((hc c y c0 c1 wy).1 10 (by decide) (by decide)), qP_e ((hc d z d0 d1 wz).1 10 (by decide) (by decide))]
    exact g3 c d y z c0 c1 d0 d1 cd wy wz
def skK : List Nat := [2, 3, 4, 221, 1102, 1104, 21200, 21201, 21202, 21203, 21204, 21205, 21206, 21208, 21209, 21210]
theorem SKi.fr {W : List Nat} {h h' : aH} {i : Int} (g : SKi h i) (hO : OK h) (hO' : OK h') (u : un W h h') (hw : ∀ k ∈ skK, k ∉ W) : SKi h' i := by
  have m : ∀ k, k ∈ skK → k ∉ W := hw
  refine g.move (g.1.un hO hO' u (m 2 (by decide)) (m 3 (by decide)) (m 1102 (by decide))) (fO_keep (a := 1) (ci := 6) (n := 5) (k := 4) hO hO' u (by decide) rfl (by decide) rfl (m 1104 (by decide))) (arR_u4 hO u (m 4 (by decide))) (fun sp => nxC_un hO hO' u (m 2 (by decide)) (m 3 (by decide)) (m 1102 (by decide)) sp) (fun c z c0 c1 w => ?_)
  have t := cz_ok hO w
  obtain ⟨q, -, eq, gq, tq, -, -⟩ := cm_q hO t.2
  refine ⟨fun k hk h7 => fC_un hO u t.1 t.2 (by omega) (m _ ((show ∀ k, k < 11 → k ≠ 7 → 21200 + k ∈ skK by decide) k hk h7)), ?_⟩
  rw [eq]
  exact arI_p hO u gq tq (m 221 (by decide))
theorem SKc.un {W : List Nat} {h h' : aH} (g : SKc h) (hO : OK h) (hO' : OK h') (u : un W h h') (hw : ∀ k ∈ skK, k ∉ W) : SKc h' := by
  have e := fO_keep (a := 1) (ci := 6) (n := 5) (k := 4) hO hO' u (by decide) rfl (by decide) rfl (hw 1104 (by decide))
  unfold SKc at g ⊢
  rw [e]
  exact g.fr hO hO' u hw
/-- what is kept but for one comet's returns -/
theorem K2.lo {h h' : aH} {z q b : Nat} (k : K2 h h' z q) (hz : 114 ≤ z) (hq : 114 ≤ q) (hb : b < 114) : h'[b]? = h[b]? := k b (by omega) (by omega)
theorem SKi.step {h h3 : aH} {z : Nat} {i i' : Int} (g : SKi h i) (hO : OK h) (i0 : 0 ≤ i) (i1 : i < fO h 1 4) (w : cz h i z) (k : K2 h h3 z (qP h z)) (u : un [221, 21208, 21209] h h3) (r : isRe (NXh h (fO h z 1)) (fO h z 1) (fO h z 0) (cf h3 z) (fO h3 z 8) (fO h3 z 9)) (e : i' = i + 1) : SKi h3 i' ∧ fO h3 1 4 = fO h 1 4 := by
  subst e
  have t := cz_ok hO w
  obtain ⟨q, -, eq, gq, tq, nq, -⟩ := cm_q hO t.2
  rw [eq] at k
  have lo := fun (b : Nat) (hb : b < 114) => k.lo t.1 gq hb
  have n := fO_c (lo 1 (by decide)) 4
  have nx : ∀ sp, NXh h3 sp = NXh h sp := fun sp => by
    unfold NXh
    rw [gI_f (lo 2 (by decide)), gI_f (lo 3 (by decide)), fO_c (lo 1 (by decide)) 2]
  have a4 : arR h3 4 = arR h 4 := arR_c (lo 4 (by decide))
  have hr : RPc h3 := fun j j0 j1 => by
    rw [fO_c (lo 1 (by decide)) 2] at j1
    rw [gI_f (lo 2 (by decide)), gI_f (lo 3 (by decide))]
    exact g.1 j j0 j1
  obtain ⟨-, g2, g3⟩ := g
  have oth : ∀ (c : Int) (y : Nat), 0 ≤ c → c < fO h 1 4 → c ≠ i → cz h c y → h3[y]? = h[y]? ∧ h3[qP h y]? = h[qP h y]? := fun c y c0 c1 ci wy => by
    obtain ⟨n1, n2⟩ := g3 c i y z c0 c1 i0 i1 ci wy w
    have ty := cz_ok hO wy
    obtain ⟨qy, -, ey, -, tqy, -, -⟩ := cm_q hO ty.2
    rw [eq, ey] at n2
    rw [ey]
    refine ⟨k y n1 (fun e => ?_), k qy (fun e => ?_) n2⟩
    · have a := ty.2
      rw [e, tq] at a
      exact absurd (congrArg Prod.fst a) (by decide)
    · have a := t.2
      rw [← e, tqy] at a
      exact absurd (congrArg Prod.fst a) (by decide)
  refine ⟨⟨hr, fun c c0 c1 => ?_, fun c d y y' c0 c1 d0 d1 cd wy wy' => ?_⟩, n⟩
  · rw [n] at c1
    obtain ⟨y, wy, p1, p3⟩ := g2 c c0 c1
    by_cases ci : c = i
    · subst ci
      have ey := cz_u w wy
      subst ey
      refine ⟨z, cz_c a4.symm w, CMz_e p1 (fun k hk => fC_un hO u t.1 t.2 (by omega) ((show ∀ k, k < 7 → 21200 + k ∉ [221, 21208, 21209] by decide) k hk)), ?_⟩
      rw [fO_eA (fC_un (k := 0) hO u t.1 t.2 (by decide) (by decide)), fO_eA (fC_un (k := 1) hO u t.1 t.2 (by decide) (by decide)), nx]
      exact fun _ => r
    · obtain ⟨e1, e2⟩ := oth c y c0 c1 ci wy
      refine ⟨y, cz_c a4.symm wy, CMz_e p1 (fun k _ => fA_c e1 k), ?_⟩
      rw [fO_c e1 0, fO_c e1 1, nx, cf_e (fA_c e1 8) (fA_c e1 9) (fA_c e1 10) (arI_c e2), fO_c e1 8, fO_c e1 9]
      exact fun l => p3 (by omega)
  · rw [n] at c1 d1
    have wy := cz_c a4 wy
    have wy' := cz_c a4 wy'
    have ty := cz_ok hO wy
    have ty' := cz_ok hO wy'
    rw [qP_e (fC_un (k := 10) hO u ty.1 ty.2 (by decide) (by decide)), qP_e (fC_un (k := 10) hO u ty'.1 ty'.2 (by decide) (by decide))]
    exact g3 c d y y' c0 c1 d0 d1 cd wy wy'
/-- a comet has come, ahead of its reckoning -/
theorem SKi.push {h h2 : aH} {x : Nat} {n : Int} (g : SKc h) (hO : OK h) (hn : n = fO h 1 4) (n0 : 0 ≤ n ∧ n ≤ 11) (tx : 114 ≤ x ∧ tg h x = (102, 14)) (fr : ∀ (c : Int) (z : Nat), 0 ≤ c → c < n → cz h c z → z ≠ x ∧ qP h z ≠ qP h x) (k : ∀ b : Nat, b ≠ 4 → b ≠ 1 → h2[b]? = h[b]?) (a4 : arR h2 4 = (arR h 4).set n.toNat (some x)) (m : fO h2 1 4 = n + 1) (m2 : fO h2 1 2 = fO h 1 2) (p1 : CMz h n x) : SKi h2 n ∧ cz h2 n x ∧ ∀ (c : Int) (z : Nat), 0 ≤ c → c < n → cz h c z → cz h2 c z := by
  have hl := arR4_len hO
  unfold SKc at g
  rw [← hn] at g
  obtain ⟨g1, g2, g3⟩ := g
  rw [← hn] at g2 g3
  have hi : ∀ b : Nat, 114 ≤ b → h2[b]? = h[b]? := fun b hb => k b (by omega) (by omega)
  have nx : ∀ sp, NXh h2 sp = NXh h sp := fun sp => by
    unfold NXh
    rw [gI_f (k 2 (by decide) (by decide)), gI_f (k 3 (by decide) (by decide)), m2]
  have old : ∀ (c : Int) (z : Nat), 0 ≤ c → c < n → (cz h2 c z ↔ cz h c z) := fun c z c0 c1 => by
    unfold cz
    rw [a4, List.getElem?_set_ne (by omega)]
  have new : cz h2 n x := by
    unfold cz
    rw [a4, List.getElem?_set_self (by omega)]
  have qk : ∀ z : Nat, 114 ≤ z → qP h2 z = qP h z := fun z hz => qP_e (fA_c (hi z hz) 10)
  refine ⟨⟨fun j j0 j1 => ?_, fun c c0 c1 => ?_, fun c d y z c0 c1 d0 d1 cd wy wz => ?_⟩, new, fun c z c0 c1 w => (old c z c0 c1).mpr w⟩
  · rw [m2] at j1
    rw [gI_f (k 2 (by decide) (by decide)), gI_f (k 3 (by decide) (by decide))]
    exact g1 j j0 j1
  · rw [m] at c1
    by_cases q : c = n
    · subst q
      exact ⟨x, new, CMz_e p1 (fun k _ => fA_c (hi x tx.1) k), fun l => by omega⟩
    · obtain ⟨z, w, r1, r3⟩ := g2 c c0 (by omega)
      have tz := cz_ok hO w
      obtain ⟨qz, -, ez, gqz, -, -, -⟩ := cm_q hO tz.2
      refine ⟨z, (old c z c0 (by omega)).mpr w, CMz_e r1 (fun k _ => fA_c (hi z tz.1) k), ?_⟩
      rw [fO_c (hi z tz.1) 0, fO_c (hi z tz.1) 1, nx, cf_e (fA_c (hi z tz.1) 8) (fA_c (hi z tz.1) 9) (fA_c (hi z tz.1) 10) (by rw [ez]; exact arI_c (hi qz gqz)), fO_c (hi z tz.1) 8, fO_c (hi z tz.1) 9]
      exact r3
  · rw [m] at c1 d1
    by_cases q : c = n
    · by_cases q' : d = n
      · omega
      · subst q
        have wz := (old d z d0 (by omega)).mp wz
        obtain rfl := cz_u wy new
        have tz := cz_ok hO wz
        obtain ⟨e1, e2⟩ := fr d z d0 (by omega) wz
        rw [qk y tx.1, qk z tz.1]
        exact ⟨fun e => e1 e.symm, fun e => e2 e.symm⟩
    · have wy := (old c y c0 (by omega)).mp wy
      have ty := cz_ok hO wy
      by_cases q' : d = n
      · subst q'
        obtain rfl := cz_u wz new
        obtain ⟨e1, e2⟩ := fr c y c0 (by omega) wy
        rw [qk y ty.1, qk z tx.1]
        exact ⟨e1, e2⟩
      · have wz := (old d z d0 (by omega)).mp wz
        have tz := cz_ok hO wz
        rw [qk y ty.1, qk z tz.1]
        exact g3 c d y z c0 (by omega) d0 (by omega) cd wy wz
/-- the comets that are there stay, with their first m fields -/
def KCc (m : Nat) (h h' : aH) : Prop := ∀ (c : Int) (z : Nat), 0 ≤ c → c < fO h 1 4 → cz h c z → cz h' c z ∧ ∀ k, k < m → fA h' z k = fA h z k
theorem KCc.rf {m : Nat} {h : aH} : KCc m h h := fun _ _ _ _ w => ⟨w, fun _ _ => rfl⟩
theorem KCc.tr {m : Nat} {a b c : aH} (g : KCc m a b) (k : KCc m b c) (l : fO a 1 4 ≤ fO b 1 4) : KCc m a c := fun i z h0 h1 w => by
  obtain ⟨w1, e1⟩ := g i z h0 h1 w
  obtain ⟨w2, e2⟩ := k i z h0 (by omega) w1
  exact ⟨w2, fun j hj => (e2 j hj).trans (e1 j hj)⟩
theorem KCc.le {m m' : Nat} {h h' : aH} (g : KCc m h h') (l : m' ≤ m) : KCc m' h h' := fun c z c0 c1 w => by
  obtain ⟨a, b⟩ := g c z c0 c1 w
  exact ⟨a, fun k hk => b k (by omega)⟩
theorem KCc.un {m : Nat} {W : List Nat} {h h' : aH} (hO : OK h) (g : un W h h') (h1 : 4 ∉ W) (hm : m ≤ 8) (hw : ∀ k, k < m → 21200 + k ∉ W) : KCc m h h' := fun c z _ _ w => by
  have t := cz_ok hO w
  exact ⟨cz_c (arR_u4 hO g h1).symm w, fun k hk => fC_un hO g t.1 t.2 (by omega) (hw k hk)⟩
theorem KCc.push {m : Nat} {h h2 : aH} {n : Int} (hO : OK h) (hn : n = fO h 1 4) (k : ∀ b : Nat, b ≠ 4 → b ≠ 1 → h2[b]? = h[b]?) (o : ∀ (c : Int) (z : Nat), 0 ≤ c → c < n → cz h c z → cz h2 c z) : KCc m h h2 := fun c z c0 c1 w => by
  have t := cz_ok hO w
  exact ⟨o c z c0 (by omega) w, fun j _ => fA_c (k z (by omega) (by omega)) j⟩
/-- the places of a comet that has just been made are nobody's -/
theorem cm_fr {h h1 : aH} {x : Nat} (hO : OK h) (hx : x = h.length) (lo : ∀ b : Nat, b < h.length → h1[b]? = h[b]?) (f10 : fA h1 x 10 = some (.inr (.inr (some (h.length + 1))))) : ∀ (c : Int) (z : Nat), cz h c z → z ≠ x ∧ qP h1 z ≠ qP h1 x := fun c z w => by
  have t := cz_ok hO w
  obtain ⟨q, e10, eq, gq, tq, -, -⟩ := cm_q hO t.2
  have lt : ∀ b : Nat, (tg h b).1 < 900 → b < h.length := fun b hb => by
    rcases Nat.lt_or_ge b h.length with l | l
    · exact l
    · unfold tg at hb
      rw [List.getElem?_eq_none l] at hb
      exact absurd hb (by decide)
  have lz := lt z (by rw [t.2]; decide)
  have lq := lt q (by rw [tq]; decide)
  refine ⟨by omega, ?_⟩
  rw [qP_e (fA_c (lo z lz) 10), eq, qP_of f10]
  omega
theorem CA_some {h : aH} {i : Int} {kd : Nat} {xs : List (Option Nat)} {j : Int32} {o : Option Nat} (g : SKi h i) (hc : h[4]? = some (.inr (kd, .inr (.inr xs)))) (hx : xs[j.toInt.toNat]? = some o) (h0 : 0 ≤ j.toInt) (h1 : j.toInt < fO h 1 4) : o ≠ none := by
  obtain ⟨z, w, -⟩ := g.2.1 j.toInt h0 h1
  unfold cz at w
  rw [arR_of hc, hx] at w
  cases w
  exact fun e => nomatch e
theorem CA_eq {h : aH} {kd : Nat} {xs : List (Option Nat)} {j : Int32} {o : Option Nat} {z : Nat} (w : cz h j.toInt z) (hc : h[4]? = some (.inr (kd, .inr (.inr xs)))) (hx : xs[j.toInt.toNat]? = some o) : o = some z := by
  unfold cz at w
  rw [arR_of hc, hx] at w
  exact Option.some.inj w
/-- a great body has come, ahead of the reckonings -/
theorem SKi.great {h h1 h2 h3 : aH} {r p : Int32} {n : Int} (g : SKc h) (hO : OK h) (hO1 : OK h1) (hn : n = fO h 1 2) (n0 : 0 ≤ n ∧ n ≤ 3) (w1 : wI h h1 2 ((arI h 2).set n.toNat r)) (w2 : wI h1 h2 3 ((arI h1 3).set n.toNat p)) (e : ∀ b : Nat, b ≠ 1 → h3[b]? = h2[b]?) (m : fO h3 1 2 = n + 1) (m4 : fO h3 1 4 = fO h 1 4) (hr : 100 ≤ r.toInt ∧ r.toInt ≤ 20000) (hp : 0 ≤ p.toInt ∧ p.toInt ≤ 60) : SKi h3 0 ∧ arI h3 2 = (arI h 2).set n.toNat r ∧ arI h3 3 = (arI h 3).set n.toNat p := by
  have l2 : (arI h 2).length = 4 := by
    obtain ⟨xs, hc, hn, he⟩ := hO.int (hO.fix 2 (by decide) rfl)
    rw [arI_of hc]
    exact hn
  have l3 : (arI h 3).length = 4 := by
    obtain ⟨xs, hc, hn, he⟩ := hO.int (hO.fix 3 (by decide) rfl)
    rw [arI_of hc]
    exact hn
  have a2 : arI h3 2 = (arI h 2).set n.toNat r := (arI_c (e 2 (by decide))).trans ((arI_c (w2.2 2 (by decide))).trans w1.1)
  have a3 : arI h3 3 = (arI h 3).set n.toNat p := (arI_c (e 3 (by decide))).trans (w2.1.trans (by rw [arI_c (w1.2 3 (by decide))]))
  have k : ∀ b : Nat, b ≠ 1 → b ≠ 2 → b ≠ 3 → h3[b]? = h[b]? := fun b b1 b2 b3 => (e b b1).trans ((w2.2 b b3).trans (w1.2 b b2))
  obtain ⟨g1, g2, g3⟩ := g
  have a4 : arR h3 4 = arR h 4 := arR_c (k 4 (by decide) (by decide) (by decide))
  have hi : ∀ b : Nat, 114 ≤ b → h3[b]? = h[b]? := fun b hb => k b (by omega) (by omega) (by omega)
  refine ⟨⟨fun j j0 j1 => ?_, fun c c0 c1 => ?_, fun c d y z c0 c1 d0 d1 cd wy wz => ?_⟩, a2, a3⟩
  · rw [m] at j1
    have u2 := gI_sq (j := j) l2 a2 (by omega) j0
    have u3 := gI_sq (j := j) l3 a3 (by omega) j0
    by_cases q : j = n
    · rw [u2.1 (by omega), u3.1 (by omega)]
      exact ⟨hr, hp⟩
    · rw [u2.2 (by omega), u3.2 (by omega)]
      exact g1 j j0 (by omega)
  · rw [m4] at c1
    obtain ⟨z, w, p1, p3⟩ := g2 c c0 c1
    have tz := cz_ok hO w
    exact ⟨z, cz_c a4.symm w, CMz_e p1 (fun k _ => fA_c (hi z tz.1) k), fun l => by omega⟩
  · rw [m4] at c1 d1
    have wy := cz_c a4 wy
    have wz := cz_c a4 wz
    rw [qP_e (fA_c (hi y (cz_ok hO wy).1) 10), qP_e (fA_c (hi z (cz_ok hO wz).1) 10)]
    exact g3 c d y z c0 c1 d0 d1 cd wy wz
def NCz (h : aH) (c : Int) (z : Nat) (p s nd rc w b pa : Int) : Prop := cz h c z ∧ fO h z 0 = p ∧ fO h z 1 = s ∧ fO h z 2 = nd ∧ fO h z 3 = rc ∧ fO h z 4 = w ∧ fO h z 5 = b ∧ fO h z 6 = pa ∧ fO h z 7 = -2000000000
variable {d : Nat} {T : aTab} {Q : Option aV → aH → Prop} {pc : Nat} {al : aL} {st : List aV} {h : aH} {kc ks n i : Nat}
set_option maxRecDepth 20000 in
set_option maxHeartbeats 4000000 in
theorem sd_X6_cometAt {d kc ks : Nat} {h0 : aH} {Q : Option aV → aH → Prop} (hO0 : OK h0) (a1 : Int32) (pre0 : SKc h0) (hQ : ∀ r, (∃ o, r = some (.inr (.inr o)) ∧ (∀ z, o = some z → 114 ≤ z ∧ tg h0 z = (102, 14)) ∧ (o = none → ¬ (0 ≤ a1.toInt ∧ a1.toInt < fO h0 1 4)) ∧ (∀ z, o = some z → (0 ≤ a1.toInt ∧ a1.toInt < fO h0 1 4) ∧ cz h0 a1.toInt z)) → Q r h0) : uCall Mt (d + 1) 60 [(.inr (.inr (some 1))), (.inl a1)] h0 kc ks Q := by
  have l_0 : ((0) : Int32).toInt = 0 := by decide
  refine uc_ink [some (.inr (.inr (some 1))), some (.inl a1)] mt_60 (Nat.le_of_ble_eq_true rfl) rfl ?_
  obtain ⟨f2, f3, hc1, k4⟩ := ok_1 hO0
  have t5 := fO_of (k := 4) hc1 rfl
  refine ur_ldI rfl rfl ?_
  refine ur_if1 rfl (fun c6 => ?_) (fun c6 => ?_)
  · have t7 := lt_to c6
    refine ur_push rfl ?_
    exact ur_ret rfl rfl (hQ _ ⟨_, rfl, (fun _ e => nomatch e), (fun _ => by omega), (fun _ e => nomatch e)⟩ )
  · have t8 := lt_no c6
    refine ur_ldI rfl rfl ?_
    refine ur_ldA rfl rfl ?_
    refine ur_get rfl hc1 rfl ?_
    have z9 := any_r a1
    have z10 := any_r f3
    refine ur_if2 rfl (fun c11 => ?_) (fun c11 => ?_)
    · have t12 := le_to c11
      refine ur_push rfl ?_
      exact ur_ret rfl rfl (hQ _ ⟨_, rfl, (fun _ e => nomatch e), (fun _ => by omega), (fun _ e => nomatch e)⟩ )
    · have t13 := le_no c11
      refine ur_ldA rfl rfl ?_
      refine ur_get rfl hc1 rfl ?_
      refine ur_ldI rfl rfl ?_
      obtain ⟨xs15, hc14, hn16, he17⟩ := hO0.com (hO0.fix 4 (by decide) rfl)
      refine ur_aldAV rfl hc14 hn16 (by omega) (fun o18 hx19 => ?_)
      have k20 : ∀ z, o18 = some z → 114 ≤ z ∧ tg h0 z = (102, 14) := fun z e => he17 _ z (by rw [hx19, e])
      have t21 : o18 = none → ¬ (0 ≤ a1.toInt ∧ a1.toInt < fO h0 1 4) := fun e => absurd e (CA_some pre0 hc14 hx19 (by omega) (by omega))
      have t22 : ∀ z, o18 = some z → (0 ≤ a1.toInt ∧ a1.toInt < fO h0 1 4) ∧ cz h0 a1.toInt z := fun z e => ⟨by omega, by unfold cz; rw [arR_of hc14, hx19, e]⟩
      refine ur_go rfl ?_
      exact ur_ret rfl rfl (hQ _ ⟨_, rfl, k20, (fun e => by have e := t21 e; omega), t22⟩ )

set_option maxRecDepth 20000 in
set_option maxHeartbeats 4000000 in
theorem se_X6_addGreat {d kc ks : Nat} {h0 : aH} {Q : Option aV → aH → Prop} (hO0 : OK h0) (a1 : Int32) (b1 : 100 ≤ a1.toInt ∧ a1.toInt ≤ 20000) (a2 : Int32) (b2 : 0 ≤ a2.toInt ∧ a2.toInt ≤ 60) (pre0 : SKc h0) (pre1 : 100 ≤ a1.toInt ∧ a1.toInt ≤ 20000) (pre2 : 0 ≤ a2.toInt ∧ a2.toInt ≤ 60) (pre3 : fO h0 1 2 ≤ 3) (hQ : ∀ r h', (∃ x : Int32, r = some (.inl x) ∧ (x.toInt = fO h0 1 2 ∧ fO h' 1 2 = fO h0 1 2 + 1)) → OK h' → un [2, 3, 221, 1102, 21208, 21209] h0 h' → (SKc h') → (arI h' 2 = (arI h0 2).set (fO h0 1 2).toNat a1 ∧ arI h' 3 = (arI h0 3).set (fO h0 1 2).toNat a2) → Q r h') : uCall Mt (d + 5) 58 [(.inr (.inr (some 1))), (.inl a1), (.inl a2)] h0 kc ks Q := by
  have l_0 : ((0) : Int32).toInt = 0 := by decide
  have l_1 : ((1) : Int32).toInt = 1 := by decide
  have l_4 : ((4) : Int32).toInt = 4 := by decide
  refine uc_ink [some (.inr (.inr (some 1))), some (.inl a1), some (.inl a2), none] mt_58 (Nat.le_of_ble_eq_true rfl) rfl ?_
  obtain ⟨f2, f3, hc1, k4⟩ := ok_1 hO0
  have t5 := fO_of (k := 2) hc1 rfl
  have t6 := fO_of (k := 4) hc1 rfl
  refine ur_ldA rfl rfl ?_
  refine ur_get rfl hc1 rfl ?_
  refine ur_push rfl ?_
  refine ur_if2 rfl (fun c7 => ?_) (fun c7 => ?_)
  · have t8 := lt_to c7
    refine ur_ldA rfl rfl ?_
    refine ur_get rfl hc1 rfl ?_
    refine ur_ldA rfl rfl ?_
    refine ur_get rfl hc1 rfl ?_
    refine ur_ldI rfl rfl ?_
    obtain ⟨xs10, hc9, hn11, he12⟩ := hO0.int (hO0.fix 2 (by decide) rfl)
    refine ur_astV (W := [2]) (m := 4) rfl hO0 hc9 (by decide) hn11 (by omega) (any_r _) (Or.inr (Or.inr (wid_fix (by decide) (by decide)))) (fun h15 hO15 hv15 d13 hc14 => ?_)
    have hu15 : un [2, 3, 221, 1102, 21208, 21209] h0 h15 := hv15.mono (by decide)
    have w16 : wI h0 h15 2 ((arI h0 2).set (f2 : Int32).toInt.toNat a1) := ⟨by rw [arI_of hc14, arI_of hc9], d13⟩
    refine ur_ldA rfl rfl ?_
    refine ur_get rfl ((d13 _ (by decide)).trans hc1) rfl ?_
    have t17 := fO_of (k := 2) ((d13 _ (by decide)).trans hc1) rfl
    have t18 := fO_of (k := 4) ((d13 _ (by decide)).trans hc1) rfl
    refine ur_ldA rfl rfl ?_
    refine ur_get rfl ((d13 _ (by decide)).trans hc1) rfl ?_
    refine ur_ldI rfl rfl ?_
    obtain ⟨xs20, hc19, hn21, he22⟩ := hO15.int (hO15.fix 3 (by decide) rfl)
    refine ur_astV (W := [3]) (m := 4) rfl hO15 hc19 (by decide) hn21 (by omega) (by show 0 ≤ a2.toInt ∧ a2.toInt ≤ 60; omega) (Or.inr (Or.inr (wid_fix (by decide) (by decide)))) (fun h25 hO25 hv25 d23 hc24 => ?_)
    have hu25 : un [2, 3, 221, 1102, 21208, 21209] h15 h25 := hv25.mono (by decide)
    have w26 : wI h15 h25 3 ((arI h15 3).set (f2 : Int32).toInt.toNat a2) := ⟨by rw [arI_of hc24, arI_of hc19], d23⟩
    refine ur_ldA rfl rfl ?_
    refine ur_dup rfl rfl ?_
    refine ur_get rfl ((d23 _ (by decide)).trans ((d13 _ (by decide)).trans hc1)) rfl ?_
    have t27 := fO_of (k := 2) ((d23 _ (by decide)).trans ((d13 _ (by decide)).trans hc1)) rfl
    have t28 := fO_of (k := 4) ((d23 _ (by decide)).trans ((d13 _ (by decide)).trans hc1)) rfl
    refine ur_push rfl ?_
    refine ur_binV rfl (fun x29 e30 => ?_)
    have z31 := any_r f2
    have t32 := ti_add e30 (by omega) (by omega)
    refine ur_putV (W := [1102]) (fs' := [(.inr (.inr (some 2))), (.inr (.inr (some 3))), (.inl x29), (.inr (.inr (some 4))), (.inl f3)]) rfl hO25 ((d23 _ (by decide)).trans ((d13 _ (by decide)).trans hc1)) (Nat.le_of_ble_eq_true rfl) rfl rfl ⟨rfl, _, _, rfl, by omega⟩ rfl (Or.inr (by show 1000 + 100 * wid 1 (106, 5) + 2 ∈ _; rw [(wid_f (by decide))]; decide)) (fun h34 hO34 hv34 d33 hc35 => ?_)
    have hu34 : un [2, 3, 221, 1102, 21208, 21209] h25 h34 := hv34.mono (by decide)
    have t36 := fO_of (k := 2) hc35 rfl
    have t37 := fO_of (k := 4) hc35 rfl
    have t38 := fO_keep (a := 1) (ci := 6) (n := 5) (k := 4) hO0 hO15 hv15 (by decide) rfl (by decide) rfl (by decide)
    have t39 := fO_keep (a := 1) (ci := 6) (n := 5) (k := 4) hO15 hO25 hv25 (by decide) rfl (by decide) rfl (by decide)
    have G40 := SKi.great (n := (fO h0 1 2)) pre0 hO0 hO15 rfl (by omega) (by have q := w16; rw [show (f2 : Int32).toInt.toNat = (fO h0 1 2).toNat from congrArg Int.toNat (show (f2 : Int32).toInt = (fO h0 1 2) by omega)] at q; exact q) (by have q := w26; rw [show (f2 : Int32).toInt.toNat = (fO h0 1 2).toNat from congrArg Int.toNat (show (f2 : Int32).toInt = (fO h0 1 2) by omega)] at q; exact q) d33 (by omega) (by omega) pre1 pre2
    refine ur_push rfl ?_
    refine ur_svIk [some (.inr (.inr (some 1))), some (.inl a1), some (.inl a2), some (.inl 0)] rfl rfl ?_
    have L42 : ∀ (m43 : Nat) (x41 : Int32) (h45 : aH) , OK h45 → un [2, 3, 221, 1102, 21208, 21209] h34 h45 → ((0 ≤ x41.toInt ∧ x41.toInt ≤ 12) ∧ fO h45 1 2 = fO h0 1 2 + 1 ∧ fO h45 1 4 = fO h0 1 4 ∧ x41.toInt ≤ fO h0 1 4) → (SKi h45 x41.toInt) → (arI h45 2 = (arI h0 2).set (fO h0 1 2).toNat a1 ∧ arI h45 3 = (arI h0 3).set (fO h0 1 2).toNat a2) → ((13 - x41.toInt).toNat) < m43 → uRun oX6_addGreat (uCall Mt (d + 4)) Q 43 ([some (.inr (.inr (some 1))), some (.inl a1), some (.inl a2), some (.inl x41)], [], h45, kc, ks) := by
      intro m43
      induction m43 with
      | zero => intro x41 h45 hO45 hu45 iv48 px46 px47 mm49; omega
      | succ m43 ih44 =>
        intro x41 h45 hO45 hu45 iv48 px46 px47 mm49
        refine ur_ldI rfl rfl ?_
        refine ur_ldA rfl rfl ?_
        obtain ⟨f51, f52, hc50, k53⟩ := ok_1 hO45
        refine ur_get rfl hc50 rfl ?_
        have t54 := fO_of (k := 2) hc50 rfl
        have t55 := fO_of (k := 4) hc50 rfl
        have z56 := any_r x41
        have z57 := any_r f52
        refine ur_if2 rfl (fun c58 => ?_) (fun c58 => ?_)
        · have t59 := le_to c58
          refine ur_ldA rfl rfl ?_
          refine ur_get rfl hc50 rfl ?_
          refine ur_push rfl ?_
          refine ur_binV rfl (fun x60 e61 => ?_)
          have z62 := any_r f51
          have t63 := ti_sub e61 (by omega) (by omega)
          exact ur_ret rfl rfl (hQ _ _ ⟨_, rfl, by omega⟩ hO45 (hu15.tr (hu25.tr (hu34.tr hu45))) (by unfold SKc; rw [show fO h45 1 4 = x41.toInt by omega]; exact px46) px47)
        · have t64 := le_no c58
          refine ur_ldA rfl rfl ?_
          refine ur_ldA rfl rfl ?_
          refine ur_get rfl hc50 rfl ?_
          refine ur_ldI rfl rfl ?_
          obtain ⟨xs66, hc65, hn67, he68⟩ := hO45.com (hO45.fix 4 (by decide) rfl)
          refine ur_aldAV rfl hc65 hn67 (by omega) (fun o69 hx70 => ?_)
          have k71 : ∀ z, o69 = some z → 114 ≤ z ∧ tg h45 z = (102, 14) := fun z e => he68 _ z (by rw [hx70, e])
          obtain ⟨z72, w73, p74, p75⟩ := px46.2.1 x41.toInt (by omega) (by omega)
          unfold CMz CMr at p74
          have e76 := CA_eq w73 hc65 hx70
          subst e76
          have t77 := cz_ok hO45 w73
          refine ur_inl rfl (rcv_of hc50) (Nat.le_of_ble_eq_true rfl) (Nat.le_of_ble_eq_true rfl) (sd_X6_reckonReturns hO45 t77.1 t77.2 px46.1 (by omega) (by omega) (fun w78 h82 hr79 hO82 hv82 hp80 hp81 => ?_))
          have hu82 : un [2, 3, 221, 1102, 21208, 21209] h45 h82 := hv82.mono (by decide)
          subst hr79
          show uRun _ (uCall Mt _) _ 61 (_, [], _, _, _)
          have S83 := SKi.step (i := x41.toInt) px46 hO45 (by omega) (by omega) w73 hp81 hv82 hp80 rfl
          refine ur_incV (fun z => [some (.inr (.inr (some 1))), some (.inl a1), some (.inl a2), some (.inl z)]) rfl rfl (fun _ => rfl) (fun x84 e85 => ?_)
          have t86 := ti_add e85 (by omega) (by omega)
          refine ur_go rfl ?_
          have t87 := fO_of (k := 2) (hv82.ko (n := 5) hc50 rfl (wid_f (by decide)) (by decide)) rfl
          have t88 := fO_of (k := 4) (hv82.ko (n := 5) hc50 rfl (wid_f (by decide)) (by decide)) rfl
          have z89 := any_r x84
          exact ih44 x84 _ hO82 (hu45.tr hu82) (by omega) (by have q := S83.1; rw [show x41.toInt + 1 = x84.toInt by omega] at q; exact q) ⟨(arI_keep (a := 2) (kd := 0) (n := 4) hO45 hv82 (by decide) rfl (by decide) rfl (by decide) (by decide)).trans px47.1, (arI_keep (a := 3) (kd := 0) (n := 4) hO45 hv82 (by decide) rfl (by decide) rfl (by decide) (by decide)).trans px47.2⟩ (by omega)
    exact L42 _ 0 _ hO34 un.rf (by omega) (by have q := G40.1; exact q) G40.2 (Nat.lt_succ_self _)
  · have t90 := lt_no c7
    exfalso
    omega

end SKY4
