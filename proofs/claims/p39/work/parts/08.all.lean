/-! EVERY METHOD whose operations are sound does what its abstract run says -/
section OPA
theorem lku_mem {β : Type} {k : Nat} {o : β} : ∀ {l : List (Nat × β)}, l.lookup k = some o → (k, o) ∈ l
  | [], h => by cases h
  | (a, b) :: t, h => by
    unfold List.lookup at h
    split at h
    · rename_i hk
      cases h
      have : k = a := by simpa using hk
      subst this
      exact List.mem_cons_self
    · exact List.mem_cons_of_mem _ (lku_mem h)
theorem aAt_mem {T : aTab} {pc : Nat} {o : aOp} (h : aAt T pc = some o) : ∃ ch, ch ∈ T ∧ (pc, o) ∈ ch := by
  unfold aAt at h
  rw [List.getD_eq_getElem?_getD] at h
  cases hq : T[pc / 32]? with
  | none => rw [hq] at h; cases h
  | some ch =>
    rw [hq] at h
    exact ⟨ch, List.mem_of_getElem? hq, lku_mem h⟩
theorem en_len {ws : va_W} : ∀ {vs : List aV} {us : List Value}, rS ws vs us → (lg_sl us).length = (aEn vs).length
  | [], us, hs => by rw [show us = [] from hs]; rfl
  | v :: vs, us, hs => by
    obtain ⟨u, us', rfl, hv, hs⟩ := hs
    have ih := en_len hs
    match v, hv with
    | .inl x, hv =>
      cases hv
      show ([Slot.val (.int x)] ++ lg_sl us').length = (aEn vs).length + 1
      rw [List.length_append, ih]
      exact Nat.add_comm _ _
    | .inr (.inl x), hv =>
      cases hv
      show ([Slot.val (.long x), .second] ++ lg_sl us').length = (aEn vs).length + 1 + 1
      rw [List.length_append, ih]
      exact Nat.add_comm _ _
    | .inr (.inr none), hv =>
      cases hv
      show ([Slot.val .null] ++ lg_sl us').length = (aEn vs).length + 1
      rw [List.length_append, ih]
      exact Nat.add_comm _ _
    | .inr (.inr (some k)), hv =>
      obtain ⟨a, e, -, rfl⟩ := hv
      show ([Slot.val (.ref a)] ++ lg_sl us').length = (aEn vs).length + 1
      rw [List.length_append, ih]
      exact Nat.add_comm _ _
theorem en_at {ws : va_W} : ∀ {vs : List aV} {us : List Value}, rS ws vs us → ∀ (k i : Nat) (v : aV), (aEn vs)[i]? = some (some v) → ∃ u, (k + i, u) ∈ lv_args k us ∧ rV ws v u
  | [], us, hs, k, i, v, h => by simp [aEn] at h
  | w :: vs, us, hs, k, i, v, h => by
    obtain ⟨u, us', rfl, hv, hs⟩ := hs
    have one : ∀ (z : aV), (∀ x, z ≠ .inr (.inl x)) → rV ws z u → (some z :: aEn vs)[i]? = some (some v) → ∃ u', (k + i, u') ∈ lv_args k (u :: us') ∧ rV ws v u' := by
      intro z hz hzu h
      have hcat : u.category = 1 := a1_cat hzu (by
        match z, hz with
        | .inl _, _ => rfl
        | .inr (.inl x), hz => exact absurd rfl (hz x)
        | .inr (.inr _), _ => rfl)
      cases i with
      | zero =>
        cases h
        exact ⟨u, List.mem_cons_self, hzu⟩
      | succ i =>
        obtain ⟨u', h1, h2⟩ := en_at hs (k + 1) i v (show (aEn vs)[i]? = some (some v) from h)
        refine ⟨u', ?_, h2⟩
        show _ ∈ (k, u) :: lv_args (if u.category = 2 then k + 2 else k + 1) us'
        rw [if_neg (by rw [hcat]; decide)]
        exact List.mem_cons_of_mem _ (by rw [show k + (i + 1) = k + 1 + i by omega]; exact h1)
    match w, hv, h with
    | .inl x, hv, h => exact one (.inl x) (fun _ q => by cases q) hv h
    | .inr (.inr x), hv, h => exact one (.inr (.inr x)) (fun _ q => by cases q) hv h
    | .inr (.inl x), hv, h =>
      cases hv
      match i, h with
      | 0, h =>
        cases h
        exact ⟨_, List.mem_cons_self, rfl⟩
      | 1, h => cases h
      | i + 2, h =>
        obtain ⟨u', h1, h2⟩ := en_at hs (k + 2) i v (show (aEn vs)[i]? = some (some v) from h)
        refine ⟨u', ?_, h2⟩
        show _ ∈ (k, Value.long x) :: lv_args (k + 2) us'
        exact List.mem_cons_of_mem _ (by rw [show k + (i + 2) = k + 2 + i by omega]; exact h1)
theorem en_rL {ws : va_W} {vs : List aV} {us : List Value} {n : Nat} {ls : Array Slot} (hs : rS ws vs us) (hn : (aEn vs).length ≤ n) (hl : lv_has ls n (lv_args 0 us)) : rL ws (aEnt vs n) ls n := by
  refine ⟨hl.1, hl.2.1, fun i v hi => ?_⟩
  unfold aEnt at hi
  by_cases h : i < (aEn vs).length
  · rw [List.getElem?_append_left h] at hi
    obtain ⟨u, h1, h2⟩ := en_at hs 0 i v hi
    rw [Nat.zero_add] at h1
    exact ⟨by omega, u, hl.2.2 (i, u) h1, h2⟩
  · rw [List.getElem?_append_right (by omega)] at hi
    cases rep_at hi
/-- what a program shows of a method: its class has a plain name, its operations are sound -/
def aMS (Mt : List aMd) (M : aMd) : Prop := plainName M.1.cls = true ∧ ∃ ini : Bool, (ini = true → M.1.name = "<init>") ∧ ∀ ch ∈ M.2.2.2.2, ∀ q ∈ ch, SndO Mt M.1.cls M.2.1 M.2.2.1 ini M.2.2.2.1 q.1 q.2
theorem m_sound {Mt : List aMd} {M : aMd} (hM : aMS Mt M) {d : Nat} {C : aCE} (hC : aOK Mt d C) {vs : List aV} {h : aH} {mc ms : Nat} {P : Option aV → aH → Prop} (hlen : (aEn vs).length ≤ M.2.2.1) (hrun : aRun M.2.2.2.2 C P 0 (aEnt vs M.2.2.1, [], h, mc, ms))
    (l : Launch) (D : va_G) (tys : List (ClassId × FieldType)) (ws : va_W) (us : List Value) (sz : Nat) (htys : tys.map Prod.snd = aTy) (hH : rH tys ws h) (hs : rS ws vs us) : Met l M.1 (wsA M) (aRm (d + 1) mc ms) (aPc us D tys ws sz) (aQc P tys D ws sz) mc ms (va_A ws sz) := by
  obtain ⟨hpl, ini, hini, hops⟩ := hM
  refine Met.ofW (cc := M.2.1) (maxL := M.2.2.1) (ret := M.2.2.2.1) hpl rfl ?_
  intro p e s m args below meth c s₁ B hml hv
  obtain ⟨rfl, hsz, hP, hK, ⟨hN, hRo⟩, hD0⟩ := hv
  have hts : ∀ w ∈ wG, w.before us.toArray s = true := fun w hw => atoms_spec (ws := wsA M) B.pre w (List.mem_cons_of_mem _ hw)
  have hown : s.vm.findClass M.1.cls = some m.cls := findClass_of_methodNamed B.named
  have hnm : meth.name = M.1.name := (name_of_methodNamed B.named B.method).1
  subst hsz
  have hD := hD0.self (sz := s.heap.size)
  rw [lg_entry_eq]
  have hl := lv_entry us (n := M.2.2.1) (by rw [en_len hs]; exact hlen)
  have hx : aCx p (aRm (d + 1) mc ms) s m us.toArray meth c M.1.cls M.2.1 M.2.2.1 ini D tys (va_A ws s.heap.size) s.heap :=
    ⟨B.exec, B.bytes, hml, hown, hts, hK, htys, fun q h => Or.inr h, fun h => by rw [hnm]; exact hini h, ⟨hN, hRo, rfl, by show 8 ≤ d + 1 + 8; omega, by show 500 ≤ 40 * (d + 1) + 500; omega⟩, by show 1 ≤ d + 1 + 8; omega, by show 60 ≤ 40 * (d + 1) + 500; omega⟩
  have K := hrun (aGd p l e (aRm (d + 1) mc ms) s m us.toArray below meth c D tys (va_A ws s.heap.size) s.heap M.2.2.1 ws (MQ below (aQc P tys D ws s.heap.size) us.toArray s mc ms (va_A ws s.heap.size))) (fun pc f ho => by
    obtain ⟨o, ho, hst⟩ := ho
    obtain ⟨ch, h1, h2⟩ := aAt_mem ho
    exact hops ch h1 (pc, o) h2 d C hC p l e s m us.toArray below meth c D tys ws s.heap.size mc ms P hx B.returns B.notSynchronized _ f hst (fun _ _ h => h))
  exact K s.heap [] 0 0 _ [] ws hP hD va_S.rf rX.rf hH (en_rL hs hlen hl) rfl (Nat.zero_add _) (Nat.zero_add _)
theorem aOK_all {Mt : List aMd} (hall : ∀ (mi : Nat) (M : aMd), Mt[mi]? = some M → aMS Mt M) : ∀ d : Nat, aOK Mt d (aCall Mt d)
  | 0 => fun _ _ _ _ _ _ _ _ h => h.elim
  | d + 1 => fun mi M hM vs h mc ms P hc l D tys ws us sz h1 h2 h3 => by
    obtain ⟨M', hM', hlen, hrun⟩ := hc
    rw [hM] at hM'
    cases hM'
    exact m_sound (hall mi M hM) (aOK_all hall d) hlen hrun l D tys ws us sz h1 h2 h3
end OPA
