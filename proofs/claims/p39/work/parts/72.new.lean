/-! NEW comets, words, sights: the heap grows -/
section NEW
theorem OK.len {h : aH} (hO : OK h) : 114 ≤ h.length := by
  have h1 := hO.2 113 (by decide)
  unfold tg at h1
  cases hk : h[113]? with
  | none =>
    rw [hk] at h1
    exact absurd h1 (by decide)
  | some c => have := (List.getElem?_eq_some_iff.mp hk).1; omega
theorem ap_get {h L : aH} {j : Nat} : (h ++ L)[h.length + j]? = L[j]? := by
  rw [List.getElem?_append_right (by omega), Nat.add_sub_cancel_left]
theorem ap_set {h L : aH} {j : Nat} {c : aC} : (h ++ L).set (h.length + j) c = h ++ L.set j c := by
  rw [List.set_append_right _ _ (by omega), Nat.add_sub_cancel_left]
theorem ap_tg {h L : aH} {j : Nat} {c : aC} (hc : L[j]? = some c) : tg (h ++ L) (h.length + j) = tgC c := tg_of (by rw [ap_get]; exact hc)
theorem OK.appL {h L : aH} (hO : OK h) (hs : ∀ (j : Nat) c, L[j]? = some c → sh (tg (h ++ L)) (h.length + j) c) : OK (h ++ L) := by
  have hm : ∀ b t, tg h b = t → t.1 < 900 → tg (h ++ L) b = t := fun b t h1 h2 => tm_app h1 h2
  refine ⟨fun a x hx => ?_, fun k hk => hm k _ (hO.2 k hk) ((show ∀ j, j < 114 → (T0.getD j (999, 0)).1 < 900 by decide +kernel) k hk)⟩
  by_cases q : a < h.length
  · rw [List.getElem?_append_left q] at hx
    exact sh_mono hm (hO.1 a x hx)
  · obtain ⟨j, rfl⟩ := Nat.le.dest (Nat.le_of_not_lt q)
    rw [ap_get] at hx
    exact hs j x hx
theorem cp_app {p : aC → Bool} {h L : aH} : ((h ++ L).countP p : Nat) = h.countP p + L.countP p := List.countP_append ..
theorem un.appL {W : List Nat} {h L : aH} (h1 : (L.length : Int) ≤ 4 * nC L + nS L + nW L) (h2 : (sz L : Int) ≤ 385 * nC L + 8712 * nS L + 13 * nW L) (h3 : 9002 ∈ W ∨ nC L = 0) (h4 : 9010 ∈ W ∨ nW L = 0) : un W h (h ++ L) := by
  refine ⟨fun a c ha => keep_app ha, ?_⟩
  have e1 : nC (h ++ L) = nC h + nC L := by unfold nC; rw [cp_app]; rfl
  have e2 : nW (h ++ L) = nW h + nW L := by unfold nW; rw [cp_app]; rfl
  have e3 : nS (h ++ L) = nS h + nS L := by unfold nS; rw [cp_app]; rfl
  refine ⟨?_, ?_, h3.imp id (fun q => by omega), h4.imp id (fun q => by omega)⟩
  · unfold rs1
    rw [List.length_append, e1, e2, e3]
    omega
  · unfold rs2
    rw [sz_app, e1, e2, e3]
    omega
theorem cp_up {p : aC → Bool} : ∀ {h : aH} {a : Nat} {c c' : aC}, h[a]? = some c → p c = false → p c' = true → (h.set a c').countP p = h.countP p + 1
  | [], _, _, _, ha, _, _ => by simp at ha
  | x :: t, 0, c, c', ha, hp, hq => by
    have e : x = c := Option.some.inj ha
    show List.countP p (c' :: t) = List.countP p (x :: t) + 1
    rw [e, List.countP_cons, List.countP_cons, hp, hq]
    simp
  | x :: t, a + 1, c, c', ha, hp, hq => by
    show List.countP p (x :: t.set a c') = List.countP p (x :: t) + 1
    rw [List.countP_cons, List.countP_cons]
    have := cp_up (h := t) (a := a) (show t[a]? = some c from ha) hp hq
    omega
variable {d : Nat} {T : aTab} {Q : Option aV → aH → Prop} {pc : Nat} {al : aL} {st : List aV} {h : aH} {kc ks n i : Nat}
/-- a comet's sights are made -/
def sgA : aC := .inr (4, .inr (.inl (List.replicate 8712 0)))
theorem sgA_sz : szC sgA = 8712 := by
  show (List.replicate 8712 (0 : Int64)).length = _
  rw [List.length_replicate]
theorem sg_un {W : List Nat} {a : Nat} {fs : List aV} (hO : OK h) (ha : h[a]? = some (.inl (2, fs))) (h12 : fs[12]? = some (.inr (.inr none))) (hw : 21212 ∈ W) : OK ((h ++ [sgA]).set a (.inl (2, fs.set 12 (.inr (.inr (some h.length)))))) ∧ un W h ((h ++ [sgA]).set a (.inl (2, fs.set 12 (.inr (.inr (some h.length)))))) ∧ tg ((h ++ [sgA]).set a (.inl (2, fs.set 12 (.inr (.inr (some h.length)))))) h.length = (4, 8712) := by
  have hlt := (List.getElem?_eq_some_iff.mp ha).1
  have h12l := (List.getElem?_eq_some_iff.mp h12).1
  have ha1 : (h ++ [sgA])[a]? = some (.inl (2, fs)) := by rw [List.getElem?_append_left hlt]; exact ha
  have hO1 : OK (h ++ [sgA]) := hO.app ⟨_, rfl⟩
  have htg : tg (h ++ [sgA]) h.length = (4, 8712) := (ap_tg (j := 0) rfl).trans (by show (4, szC sgA) = _; rw [sgA_sz])
  generalize hv : (Sum.inr (Sum.inr (some h.length)) : aV) = v
  have hp : pOk 2 12 v = true := by rw [← hv]; rfl
  have ht : tgC (.inl (2, fs.set 12 v)) = tgC (.inl (2, fs)) := by simp [tgC]
  have p1 : pS (.inl (2, fs)) = false := by
    show (match fs[12]? with
      | some (Sum.inr (Sum.inr (some _))) => true
      | _ => false) = false
    rw [h12]
  have p2 : pS (.inl (2, fs.set 12 v)) = true := by
    show (match (fs.set 12 v)[12]? with
      | some (Sum.inr (Sum.inr (some _))) => true
      | _ => false) = true
    rw [List.getElem?_set_self h12l, ← hv]
  have hs : sh (tg (h ++ [sgA])) a (.inl (2, fs.set 12 v)) := by
    obtain ⟨gg, p, s, nd, rc, w, b, pa, bo, f, l, q1, q2, sg, q3, rfl, k1, k2, k3, k4, k5⟩ := hO1.1 a _ ha1
    rw [← hv]
    exact ⟨gg, p, s, nd, rc, w, b, pa, bo, f, l, q1, q2, some h.length, q3, rfl, k1, k2, fun z e => by cases e; exact ⟨hO.len, htg⟩, k4, k5⟩
  refine ⟨hO1.set ha1 ht hs, ⟨fun c x hx => ?_, ?_⟩, by rw [tg_set ha1 ht]; exact htg⟩
  · by_cases q : a = c
    · subst q
      rw [ha] at hx
      cases hx
      refine ⟨_, hs_eq ha1, ht, fun k => ?_⟩
      by_cases q2 : k = 12
      · subst q2
        have ga : 114 ≤ a := by
          obtain ⟨gg, -⟩ := hO.1 a _ ha
          exact gg
        refine Or.inr (Or.inl ?_)
        have e : wid a (102, fs.length) = 202 := by
          unfold wid
          rw [if_neg (by omega)]
          rfl
        show 1000 + 100 * wid a (102, fs.length) + 12 ∈ W
        rw [e]
        exact hw
      · exact Or.inr (Or.inr (by
          show fs[k]? = (fs.set 12 v)[k]?
          rw [List.getElem?_set_ne (Ne.symm q2)]))
    · exact ⟨x, by rw [List.getElem?_set_ne q, List.getElem?_append_left (List.getElem?_eq_some_iff.mp hx).1]; exact hx, rfl, smC.rf⟩
  · have e1 : nC ((h ++ [sgA]).set a (.inl (2, fs.set 12 v))) = nC h := by
      unfold nC
      rw [cp_eq (p := pC) (c' := .inl (2, fs.set 12 v)) ha1 rfl, cp_app]
      rfl
    have e2 : nW ((h ++ [sgA]).set a (.inl (2, fs.set 12 v))) = nW h := by
      unfold nW
      rw [cp_eq (p := pW) (c' := .inl (2, fs.set 12 v)) ha1 rfl, cp_app]
      rfl
    have e3 : nS ((h ++ [sgA]).set a (.inl (2, fs.set 12 v))) = nS h + 1 := by
      unfold nS
      rw [cp_up ha1 p1 p2, cp_app]
      rfl
    refine ⟨?_, ?_, Or.inr (Int.le_of_eq e1), Or.inr (Int.le_of_eq e2)⟩
    · unfold rs1
      rw [List.length_set, List.length_append, e1, e2, e3, List.length_singleton]
      omega
    · unfold rs2
      have e5 : sz ((h ++ [sgA]).set a (.inl (2, fs.set 12 v))) = sz h + 8712 := by
        rw [sz_set ha1 (by simp [szC]), sz_app, sz_one, sgA_sz]
      rw [e5, e1, e2, e3]
      omega
theorem ur_newSg {W : List Nat} {a n1 : Nat} {fs : List aV} {ty : FieldType} (ho : aAt T pc = some (.inl (oNewJ n1))) (ho2 : aAt T n1 = some (.inl (oPut n 2 12 ty))) (hty : ∀ z : Nat, aFit ty (.inr (.inr (some z))) = true) (hO : OK h) (ha : h[a]? = some (.inl (2, fs))) (h12 : fs[12]? = some (.inr (.inr none))) (hw : 21212 ∈ W) (k : ∀ h' z, OK h' → un W h h' → h'[a]? = some (.inl (2, fs.set 12 (.inr (.inr (some z))))) → (114 ≤ z ∧ tg h' z = (4, 8712)) → uRun T (uCall Mt d) Q n (al, st, h', kc, ks)) : uRun T (uCall Mt d) Q pc (al, .inl 8712 :: .inr (.inr (some a)) :: st, h, kc, ks) := by
  refine ur_newJ ho (by decide) (by decide) ?_
  rw [show (8712 : Int32).toNatClampNeg = 8712 by decide]
  have ha1 : (h ++ [sgA])[a]? = some (.inl (2, fs)) := by rw [List.getElem?_append_left (List.getElem?_eq_some_iff.mp ha).1]; exact ha
  obtain ⟨a1, a2, a3⟩ := sg_un (W := W) hO ha h12 hw
  exact ur_put (h := h ++ [sgA]) ho2 ha1 (List.getElem?_eq_some_iff.mp h12).1 (hty _) (k _ h.length a1 a2 (hs_eq ha1) ⟨hO.len, a3⟩)
theorem ur_newIA {L L' : aH} {m : Nat} {j : Int32} (ho : aAt T pc = some (.inl (oNewI n 0))) (hj : j.toNatClampNeg = m) (h0 : ¬ j < 0) (hm : m ≤ 60000) (hL : L ++ [.inr (0, .inl (List.replicate m 0))] = L') (k : uRun T (uCall Mt d) Q n (al, .inr (.inr (some (h.length + L.length))) :: st, h ++ L', kc, ks)) : uRun T (uCall Mt d) Q pc (al, .inl j :: st, h ++ L, kc, ks) := by
  refine ur_newI ho h0 (by omega) ?_
  rw [hj, List.length_append, List.append_assoc, hL]
  exact k
theorem ur_putA {L L' : aH} {i0 ci k0 : Nat} {fs : List aV} {v : aV} {ty : FieldType} (ho : aAt T pc = some (.inl (oPut n ci k0 ty))) (hL : L[i0]? = some (.inl (ci, fs))) (hl : k0 < fs.length) (hf : aFit ty v = true) (hL' : L.set i0 (.inl (ci, fs.set k0 v)) = L') (k : uRun T (uCall Mt d) Q n (al, st, h ++ L', kc, ks)) : uRun T (uCall Mt d) Q pc (al, v :: .inr (.inr (some (h.length + i0))) :: st, h ++ L, kc, ks) := by
  refine ur_put ho (by rw [ap_get]; exact hL) hl hf ?_
  rw [ap_set, hL']
  exact k
/-- the object and the arrays of a new comet, its degrees any -/
def ncL (h : aH) (p s nd rc w b pa : Int32) (ds : List Int32) : aH := [.inl (2, [.inl p, .inl s, .inl nd, .inl rc, .inl w, .inl b, .inl pa, .inl (-2000000000), .inl 0, .inl 0, .inr (.inr (some (h.length + 1))), .inr (.inr (some (h.length + 2))), .inr (.inr none), .inr (.inr (some (h.length + 3)))]), .inr (0, .inl (List.replicate 121 0)), .inr (0, .inl ds), .inr (0, .inl (List.replicate 9 0))]
theorem ncL_ok {h : aH} (hO : OK h) {p s nd rc w b pa : Int32} {ds : List Int32} (hd : ds.length = 241) : OK (h ++ ncL h p s nd rc w b pa ds) ∧ un [9002] h (h ++ ncL h p s nd rc w b pa ds) ∧ tg (h ++ ncL h p s nd rc w b pa ds) h.length = (102, 14) := by
  have hl := hO.len
  have t1 : tg (h ++ ncL h p s nd rc w b pa ds) (h.length + 1) = (0, 121) := (ap_tg (j := 1) rfl).trans (by show (0, (List.replicate 121 (0 : Int32)).length) = _; rw [List.length_replicate])
  have t2 : tg (h ++ ncL h p s nd rc w b pa ds) (h.length + 2) = (0, 241) := (ap_tg (j := 2) rfl).trans (by show (0, ds.length) = _; rw [hd])
  have t3 : tg (h ++ ncL h p s nd rc w b pa ds) (h.length + 3) = (0, 9) := (ap_tg (j := 3) rfl).trans (by show (0, (List.replicate 9 (0 : Int32)).length) = _; rw [List.length_replicate])
  have el : ∀ (j : Nat) (xs : List Int32), shA (tg (h ++ ncL h p s nd rc w b pa ds)) (h.length + j) 0 (.inl xs) := fun j xs => ⟨xs, rfl, fun i y _ => any_d (by omega) y⟩
  refine ⟨hO.appL (fun j c hc => ?_), un.appL (by show (4 : Int) ≤ 4 * 1 + 0 + 0; omega) ?_ (Or.inl (by decide)) (Or.inr rfl), (ap_tg (h := h) (L := ncL h p s nd rc w b pa ds) (j := 0) rfl).trans rfl⟩
  · match j, hc with
    | 0, hc =>
      cases hc
      exact ⟨by omega, p, s, nd, rc, w, b, pa, _, _, _, h.length + 1, h.length + 2, none, h.length + 3, rfl, ⟨by omega, t1⟩, ⟨by omega, t2⟩, (fun z q => nomatch q), ⟨by omega, t3⟩, by decide, by decide, by decide, by decide⟩
    | 1, hc => cases hc; exact el 1 _
    | 2, hc => cases hc; exact el 2 _
    | 3, hc => cases hc; exact el 3 _
    | j + 4, hc => cases hc
  · have e1 : sz (ncL h p s nd rc w b pa ds) = 14 + (121 + (241 + 9)) := by
      show 14 + ((List.replicate 121 (0 : Int32)).length + (ds.length + ((List.replicate 9 (0 : Int32)).length + 0))) = _
      rw [hd, List.length_replicate, List.length_replicate]
    rw [e1]
    show ((14 + (121 + (241 + 9)) : Nat) : Int) ≤ 385 * 1 + 8712 * 0 + 13 * 0
    omega
end NEW
