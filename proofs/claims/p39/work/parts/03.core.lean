/-! THE ABSTRACT RUN: a frame over a list of cells; an operation is a function from frame to frame; SOUND means: what the function says, the machine does. -/
abbrev aV : Type := Int32 ⊕ (Int64 ⊕ Option Nat)
/-- what an array holds -/
abbrev aArr : Type := List Int32 ⊕ (List Int64 ⊕ List (Option Nat))
/-- a cell: an object (its class's number, its fields), or an array (its kind's number, what it holds) -/
abbrev aC : Type := (Nat × List aV) ⊕ (Nat × aArr)
abbrev aH : Type := List aC
abbrev aL : Type := List (Option aV)
/-- a frame: locals, stack, heap, and how many cells and slots may still be made -/
abbrev aF : Type := aL × List aV × aH × Nat × Nat
/-- the array kinds -/
def aTy : List FieldType := [.int, .byte, .short, .boolean, .long, .object "SameStar$Comet", .object "SameStar$Text", .object "SameStar$Word", .array .long]
def rV (ws : va_W) (v : aV) (w : Value) : Prop := match v with
  | .inl x => w = .int x
  | .inr (.inl x) => w = .long x
  | .inr (.inr none) => w = .null
  | .inr (.inr (some k)) => ∃ a e, ws[k]? = some (a, e) ∧ w = .ref a
def rO (ws : va_W) (o : Option Nat) (x : Option Nat) : Prop := match o with
  | none => x = none
  | some k => ∃ a e, ws[k]? = some (a, e) ∧ x = some a
def rS (ws : va_W) : List aV → List Value → Prop
  | [], us => us = []
  | v :: vs, us => ∃ u us', us = u :: us' ∧ rV ws v u ∧ rS ws vs us'
def rA (ws : va_W) (x : aArr) (a : vp_A) : Prop := match x with
  | .inl xs => ∃ f, a = (xs.length, .inl f) ∧ ∀ (j : Nat) y, xs[j]? = some y → f j = y
  | .inr (.inl xs) => ∃ f, a = (xs.length, .inr (.inl f)) ∧ ∀ (j : Nat) y, xs[j]? = some y → f j = y
  | .inr (.inr xs) => ∃ f, a = (xs.length, .inr (.inr (.inr (.inr f)))) ∧ ∀ (j : Nat) y, xs[j]? = some y → rO ws y (f j)
def rC (tys : List (ClassId × FieldType)) (ws : va_W) (c : aC) (e : va_E) : Prop := match c with
  | .inl o => ∃ us, e = .inr (o.1, us) ∧ rS ws o.2 us
  | .inr x => ∃ cA ty a, e = .inl (cA, a) ∧ tys[x.1]? = some (cA, ty) ∧ rA ws x.2 a
def rH (tys : List (ClassId × FieldType)) (ws : va_W) (h : aH) : Prop := ws.length = h.length ∧ ∀ (k : Nat) c, h[k]? = some c → ∃ a e, ws[k]? = some (a, e) ∧ rC tys ws c e
def rX (w0 ws : va_W) : Prop := ∀ (k : Nat) a e, w0[k]? = some (a, e) → ∃ e', ws[k]? = some (a, e')
def rL (ws : va_W) (al : aL) (ls : Array Slot) (nL : Nat) : Prop := ls.size = nL ∧ lv_wf ls ∧ ∀ (i : Nat) v, al[i]? = some (some v) → i < nL ∧ ∃ u, ls[i]? = some (.val u) ∧ rV ws v u
theorem rX.rf {ws : va_W} : rX ws ws := fun _ _ e h => ⟨e, h⟩
theorem rX.tr {a b c : va_W} (h : rX a b) (g : rX b c) : rX a c := fun k x e hk => by
  obtain ⟨e1, h1⟩ := h k x e hk
  exact g k x e1 h1
theorem rX.set {ws : va_W} {k a : Nat} {e e' : va_E} (h : ws[k]? = some (a, e)) : rX ws (ws.set k (a, e')) := fun j b f hj => by
  by_cases q : k = j
  · subst q
    rw [h] at hj
    cases hj
    exact ⟨e', by rw [List.getElem?_set_self (List.getElem?_eq_some_iff.mp h).1]⟩
  · exact ⟨f, by rw [List.getElem?_set_ne q]; exact hj⟩
theorem rX.push {ws : va_W} {x : Nat × va_E} : rX ws (ws ++ [x]) := fun j b f hj => ⟨f, by rw [List.getElem?_append_left (List.getElem?_eq_some_iff.mp hj).1]; exact hj⟩
theorem rV.ext {ws ws' : va_W} (h : rX ws ws') {v : aV} {w : Value} (hv : rV ws v w) : rV ws' v w := by
  match v, hv with
  | .inl x, hv => exact hv
  | .inr (.inl x), hv => exact hv
  | .inr (.inr none), hv => exact hv
  | .inr (.inr (some k)), hv =>
    obtain ⟨a, e, h1, h2⟩ := hv
    obtain ⟨e', h3⟩ := h k a e h1
    exact ⟨a, e', h3, h2⟩
theorem rO.ext {ws ws' : va_W} (h : rX ws ws') {v : Option Nat} {w : Option Nat} (hv : rO ws v w) : rO ws' v w := by
  match v, hv with
  | none, hv => exact hv
  | some k, hv =>
    obtain ⟨a, e, h1, h2⟩ := hv
    obtain ⟨e', h3⟩ := h k a e h1
    exact ⟨a, e', h3, h2⟩
theorem rS.ext {ws ws' : va_W} (h : rX ws ws') : ∀ {vs : List aV} {us : List Value}, rS ws vs us → rS ws' vs us
  | [], _, hs => hs
  | _ :: _, _, hs => by
    obtain ⟨u, us', h1, h2, h3⟩ := hs
    exact ⟨u, us', h1, h2.ext h, rS.ext h h3⟩
theorem rA.ext {ws ws' : va_W} (h : rX ws ws') {x : aArr} {a : vp_A} (hv : rA ws x a) : rA ws' x a := by
  match x, hv with
  | .inl xs, hv => exact hv
  | .inr (.inl xs), hv => exact hv
  | .inr (.inr xs), hv =>
    obtain ⟨f, h1, h2⟩ := hv
    exact ⟨f, h1, fun j y hj => (h2 j y hj).ext h⟩
theorem rC.ext {tys : List (ClassId × FieldType)} {ws ws' : va_W} (h : rX ws ws') {c : aC} {e : va_E} (hc : rC tys ws c e) : rC tys ws' c e := by
  match c, hc with
  | .inl o, hc =>
    obtain ⟨us, h1, h2⟩ := hc
    exact ⟨us, h1, h2.ext h⟩
  | .inr x, hc =>
    obtain ⟨cA, ty, a, h1, h2, h3⟩ := hc
    exact ⟨cA, ty, a, h1, h2, h3.ext h⟩
theorem rL.ext {ws ws' : va_W} (h : rX ws ws') {al : aL} {ls : Array Slot} {nL : Nat} (hl : rL ws al ls nL) : rL ws' al ls nL := ⟨hl.1, hl.2.1, fun i v hv => by
  obtain ⟨h0, u, h1, h2⟩ := hl.2.2 i v hv
  exact ⟨h0, u, h1, h2.ext h⟩⟩
/-- a cell is written: the same place, the same address -/
theorem rH.set {tys : List (ClassId × FieldType)} {ws : va_W} {h : aH} {k a : Nat} {e e' : va_E} {c' : aC} (hh : rH tys ws h) (hk : ws[k]? = some (a, e)) (hc : rC tys ws c' e') : rH tys (ws.set k (a, e')) (h.set k c') := by
  have hX : rX ws (ws.set k (a, e')) := rX.set hk
  refine ⟨by rw [List.length_set, List.length_set]; exact hh.1, fun j c hj => ?_⟩
  by_cases q : k = j
  · subst q
    have hlt : k < h.length := by rw [← hh.1]; exact (List.getElem?_eq_some_iff.mp hk).1
    rw [List.getElem?_set_self hlt] at hj
    cases hj
    exact ⟨a, e', by rw [List.getElem?_set_self (List.getElem?_eq_some_iff.mp hk).1], hc.ext hX⟩
  · rw [List.getElem?_set_ne q] at hj
    obtain ⟨b, f, h1, h2⟩ := hh.2 j c hj
    exact ⟨b, f, by rw [List.getElem?_set_ne q]; exact h1, h2.ext hX⟩
/-- a cell comes -/
theorem rH.push {tys : List (ClassId × FieldType)} {ws : va_W} {h : aH} {q : Nat} {e : va_E} {c : aC} (hh : rH tys ws h) (hc : rC tys ws c e) : rH tys (ws ++ [(q, e)]) (h ++ [c]) := by
  have hX : rX ws (ws ++ [(q, e)]) := rX.push
  refine ⟨by rw [List.length_append, List.length_append, hh.1]; rfl, fun j d hj => ?_⟩
  by_cases hl : j < h.length
  · rw [List.getElem?_append_left hl] at hj
    obtain ⟨b, f, h1, h2⟩ := hh.2 j d hj
    exact ⟨b, f, by rw [List.getElem?_append_left (by rw [hh.1]; exact hl)]; exact h1, h2.ext hX⟩
  · rw [List.getElem?_append_right (by omega)] at hj
    have hz : j - h.length < 1 := (List.getElem?_eq_some_iff.mp hj).1
    rw [show j - h.length = 0 by omega] at hj
    cases hj
    refine ⟨q, e, ?_, hc.ext hX⟩
    rw [show j = ws.length by rw [hh.1]; omega, List.getElem?_append_right (Nat.le_refl _), Nat.sub_self]
    rfl
theorem rS.at {ws : va_W} : ∀ {vs : List aV} {us : List Value} {k : Nat} {v : aV}, rS ws vs us → vs[k]? = some v → ∃ u, us[k]? = some u ∧ rV ws v u
  | v :: vs, _, 0, w, hs, hk => by
    obtain ⟨u, us', rfl, h2, h3⟩ := hs
    cases hk
    exact ⟨u, rfl, h2⟩
  | v :: vs, _, k + 1, w, hs, hk => by
    obtain ⟨u, us', rfl, h2, h3⟩ := hs
    obtain ⟨x, h4, h5⟩ := rS.at h3 (show vs[k]? = some w from hk)
    exact ⟨x, h4, h5⟩
theorem rS.len {ws : va_W} : ∀ {vs : List aV} {us : List Value}, rS ws vs us → us.length = vs.length
  | [], _, hs => by rw [show _ = [] from hs]; rfl
  | v :: vs, _, hs => by
    obtain ⟨u, us', rfl, h2, h3⟩ := hs
    rw [List.length_cons, List.length_cons, rS.len h3]
theorem rS.set {ws : va_W} : ∀ {vs : List aV} {us : List Value} {k : Nat} {v : aV} {u : Value}, rS ws vs us → rV ws v u → rS ws (vs.set k v) (us.set k u)
  | [], _, k, v, u, hs, hv => by rw [show _ = [] from hs]; rfl
  | w :: vs, _, 0, v, u, hs, hv => by
    obtain ⟨x, us', rfl, h2, h3⟩ := hs
    exact ⟨u, us', rfl, hv, h3⟩
  | w :: vs, _, k + 1, v, u, hs, hv => by
    obtain ⟨x, us', rfl, h2, h3⟩ := hs
    exact ⟨x, us'.set k u, rfl, h2, rS.set h3 hv⟩
theorem rS.app {ws : va_W} : ∀ {vs ws' : List aV} {us us' : List Value}, rS ws vs us → rS ws ws' us' → rS ws (vs ++ ws') (us ++ us')
  | [], _, us, us', hs, ht => by rw [show us = [] from hs]; exact ht
  | v :: vs, _, us, us', hs, ht => by
    obtain ⟨x, xs, rfl, h2, h3⟩ := hs
    exact ⟨x, xs ++ us', rfl, h2, rS.app h3 ht⟩
theorem rS.split {ws : va_W} : ∀ {n : Nat} {vs : List aV} {us : List Value}, rS ws vs us → rS ws (vs.take n) (us.take n) ∧ rS ws (vs.drop n) (us.drop n)
  | 0, vs, us, hs => ⟨rfl, hs⟩
  | n + 1, [], us, hs => by rw [show us = [] from hs]; exact ⟨rfl, rfl⟩
  | n + 1, v :: vs, us, hs => by
    obtain ⟨x, xs, rfl, h2, h3⟩ := hs
    obtain ⟨a, b⟩ := rS.split (n := n) h3
    exact ⟨⟨x, xs.take n, rfl, h2, a⟩, b⟩
theorem rS.rev {ws : va_W} : ∀ {vs : List aV} {us : List Value}, rS ws vs us → rS ws vs.reverse us.reverse
  | [], us, hs => by rw [show us = [] from hs]; rfl
  | v :: vs, us, hs => by
    obtain ⟨x, xs, rfl, h2, h3⟩ := hs
    rw [List.reverse_cons, List.reverse_cons]
    exact rS.app (rS.rev h3) ⟨x, [], rfl, h2, rfl⟩
/-! WORDS of the tables that every state keeps; those of nest mates and of arrays over arrays stand apart -/
def wG : List Cond := lw_tbl.filter goodWord
theorem wG_of {w : Cond} (i : Nat) (h : lw_tbl[i]? = some w) (hg : goodWord w = true) : w ∈ wG := List.mem_filter.mpr ⟨List.mem_of_getElem? h, hg⟩
theorem wG_in {w : Cond} (h : w ∈ wG) : w ∈ lw_tbl := (List.mem_filter.mp h).1
theorem wG_good {ws : List Cond} (h : ∀ w ∈ ws, w ∈ wG) : GoodIn wG ws := fun w hw => ⟨h w hw, good_of_word (List.mem_filter.mp (h w hw)).2⟩
def va_AOA (ty : FieldType) (U : State) : Prop := (Cond.arrayOver (.array ty)).before #[] U = true
theorem va_AOA.use {ty : FieldType} {A : Array Value} {U : State} (h : va_AOA ty U) : (Cond.arrayOver (.array ty)).before A U = true := h
theorem va_AOA.spec {ty : FieldType} {s : State} (h : va_AOA ty s) :
    ∃ comp c k, s.vm.findClass (FieldType.array ty).toString = some comp ∧ (s.vm.classes.findIdx? fun x => match x.kind with | .array component _ => component == comp | _ => false) = some c ∧ s.vm.classes[c]? = some k ∧ k.kind = .array comp (.array ty) ∧
      s.vm.findClass ("[" ++ (FieldType.array ty).toString) = some c := by
  unfold va_AOA Cond.before at h
  simp only [Cond.holds, Cond.value, beq_iff_eq] at h
  cases hc : s.vm.findClass (FieldType.array ty).toString with
  | none => simp [hc] at h
  | some comp =>
    simp only [hc, Option.bind_some, Option.bind_eq_some_iff, Option.map_eq_some_iff] at h
    obtain ⟨c, hi, k, hk, hb⟩ := h
    obtain ⟨hlt, hp, -⟩ := Array.findIdx?_eq_some_iff_getElem.mp hi
    have hkk : s.vm.classes[c] = k := (Array.getElem?_eq_some_iff.mp hk).2
    rw [hkk] at hp
    cases hkind : k.kind with
    | array component ty =>
      rw [hkind] at hb hp
      simp at hb hp
      exact ⟨comp, c, k, rfl, hi, hk, by rw [hkind, hp, hb.1], hb.2⟩
    | _ => rw [hkind] at hb; simp at hb
theorem va_AOA.moved {ty : FieldType} {u U : State} (hvm : u.vm.Alike U.vm) (h : va_AOA ty u) : va_AOA ty U := by
  obtain ⟨comp, c, k, h1, h2, h3, h4, h5⟩ := h.spec
  obtain ⟨k', hk', he⟩ := hvm.2.2 _ _ h3
  have hi : (U.vm.classes.findIdx? fun (x : Class) => match x.kind with | .array component _ => component == comp | _ => false) = some c := by
    have e1 := va_idx_bare U.vm comp
    have e2 := va_idx_bare u.vm comp
    first | rw [hvm.bare_eq] at e2 | rw [← hvm.bare_eq] at e2
    exact e1.symm.trans (e2.trans h2)
  have hkind : k'.kind = .array comp (.array ty) := by rw [he]; exact h4
  have f1 : U.vm.findClass (FieldType.array ty).toString = some comp := by rw [hvm.findClass]; exact h1
  have f2 : U.vm.findClass ("[" ++ (FieldType.array ty).toString) = some c := by rw [hvm.findClass]; exact h5
  unfold va_AOA Cond.before Cond.holds
  simp only [Cond.value]
  rw [f1, Option.bind_some]
  refine (congrArg (fun o : Option Nat => (o.bind (fun c => (U.vm.classes[c]?).map fun (k : Class) => match k.kind with | .array _ t => decide (t = FieldType.array ty) && decide (U.vm.findClass ("[" ++ (FieldType.array ty).toString) = some c) | _ => false) == some true)) hi).trans ?_
  simp [hk', hkind, f2]
def aNl : List (String × Nat × MethodName × String) := [("SameStar", 11, ⟨"SameStar$Sky", "<init>", "()V"⟩, "SameStar"), ("SameStar", 18, ⟨"SameStar$Tape", "<init>", "()V"⟩, "SameStar"), ("SameStar", 25, ⟨"SameStar$Sight", "<init>", "()V"⟩, "SameStar"), ("SameStar$Sight", 13, ⟨"SameStar$Text", "<init>", "()V"⟩, "SameStar"), ("SameStar$Book", 59, ⟨"SameStar$Text", "<init>", "()V"⟩, "SameStar"), ("SameStar", 48, ⟨"SameStar$Evenings", "<init>", "()V"⟩, "SameStar"), ("SameStar", 55, ⟨"SameStar$Acts", "<init>", "()V"⟩, "SameStar"), ("SameStar", 62, ⟨"SameStar$Pages", "<init>", "()V"⟩, "SameStar"), ("SameStar$Comet", 61, ⟨"SameStar", "isReturnNumber", "(I)Z"⟩, "SameStar"), ("SameStar$Sky", 51, ⟨"SameStar", "isDay", "(I)Z"⟩, "SameStar"), ("SameStar$Comet", 57, ⟨"SameStar", "turned", "(III)I"⟩, "SameStar"), ("SameStar$Comet", 74, ⟨"SameStar", "apart", "(II)I"⟩, "SameStar"), ("SameStar$Sight", 55, ⟨"SameStar", "apart", "(II)I"⟩, "SameStar"), ("SameStar$Sight", 71, ⟨"SameStar", "isFar", "(I)Z"⟩, "SameStar"), ("SameStar$Sight", 86, ⟨"SameStar", "isPeople", "(I)Z"⟩, "SameStar"), ("SameStar$Book", 60, ⟨"SameStar", "isPeople", "(I)Z"⟩, "SameStar"), ("SameStar$Tape", 76, ⟨"SameStar", "within", "(III)Z"⟩, "SameStar"), ("SameStar$Book", 64, ⟨"SameStar", "within", "(III)Z"⟩, "SameStar"), ("SameStar$Pages", 29, ⟨"SameStar", "within", "(III)Z"⟩, "SameStar"), ("SameStar$Sight", 121, ⟨"SameStar", "within", "(III)Z"⟩, "SameStar"), ("SameStar$Story", 80, ⟨"SameStar", "isDay", "(I)Z"⟩, "SameStar"), ("SameStar$Story", 97, ⟨"SameStar", "within", "(III)Z"⟩, "SameStar"), ("SameStar$Evenings", 36, ⟨"SameStar", "turned", "(III)I"⟩, "SameStar"), ("SameStar$Evenings", 40, ⟨"SameStar", "isFar", "(I)Z"⟩, "SameStar"), ("SameStar$Evenings", 44, ⟨"SameStar", "apart", "(II)I"⟩, "SameStar"), ("SameStar$Acts", 28, ⟨"SameStar", "within", "(III)Z"⟩, "SameStar"), ("SameStar$Acts", 39, ⟨"SameStar", "kindAbove", "(I)I"⟩, "SameStar")]
/-- the words that stand apart, of a state -/
def aNw (U : State) : Prop := (∀ q ∈ aNl, va_Nw (.methodLinkNest q.1 q.2.1 q.2.2.1 q.2.2.2) U) ∧ va_AO "SameStar$Comet" U ∧ va_AO "SameStar$Text" U ∧ va_AO "SameStar$Word" U ∧ va_AOA .long U
theorem aNw.warm {s U : State} (hW : s.WarmedH U.vm) (h : aNw s) : aNw U := ⟨fun q hq => (h.1 q hq).warmM hW, h.2.1.moved hW.alike, h.2.2.1.moved hW.alike, h.2.2.2.1.moved hW.alike, h.2.2.2.2.moved hW.alike⟩
theorem aNw.same {u U : State} (e : u.vm = U.vm) (h : aNw u) : aNw U := by
  have a : u.vm.Alike U.vm := by rw [e]; exact Vm.Alike.refl _
  exact ⟨fun q hq => (h.1 q hq).same rfl e, h.2.1.moved a, h.2.2.1.moved a, h.2.2.2.1.moved a, h.2.2.2.2.moved a⟩
/-! WHAT NOBODY WRITES: two static arrays, a String constant -/
def lAb : List Int32 := [-1, 0, 0, 0, 0, 0, 1, 2]
def lBo : List Int32 := [1, 10, 11, 2, 0, 20, 0, 0, 0, 0, 30, 0, 40, 0, 0, 0, 0, 0, 50, 0, 0, 0, 0, 60, 0, 70, 0, 0, 80, 0, 0, 81]
def lNm : List Int32 := [115, 113, 98, 103, 101, 100, 112, 121, 109, 114]
def aRo (A : Nat → Prop) (U : State) (H : Heap) : Prop := ∃ (a b : Nat) (adK adV : Nat → Nat), va_Z "SameStar" "ABOVE" "[I" (.ref a) A U H ∧ va_T .int a 8 (fun j => .int (lAb.getD j 0)) A U H ∧ va_Z "SameStar$Acts" "BODIES" "[I" (.ref b) A U H ∧ va_T .int b 32 (fun j => .int (lBo.getD j 0)) A U H ∧ va_Z "java/lang/String" "COMPACT_STRINGS" "Z" (.int 1) A U H ∧ vk_S 1 [10] [lNm] adK adV A U H ∧ vk_R "SameStar$Tape" 85 "sqbgedpymr" (adK 0) U
theorem aRo.narrow {A B : Nat → Prop} {U : State} {H : Heap} (h : aRo A U H) (hAB : ∀ q, B q → A q) : aRo B U H := by
  obtain ⟨a, b, k, v, h1, h2, h3, h4, h5, h6, h7⟩ := h
  exact ⟨a, b, k, v, h1.narrow hAB, h2.narrow hAB, h3.narrow hAB, h4.narrow hAB, h5.narrow hAB, h6.narrow hAB, h7⟩
theorem aRo.kept {A : Nat → Prop} {U : State} {H H1 : Heap} (h : aRo A U H) (hq : ∀ a : Nat, a < H.size → ¬ A a → H1[a]? = H[a]?) : aRo A U H1 := by
  obtain ⟨a, b, k, v, h1, h2, h3, h4, h5, h6, h7⟩ := h
  exact ⟨a, b, k, v, h1.kept hq, h2.kept hq, h3.kept hq, h4.kept hq, h5.kept hq, h6.kept hq, h7⟩
theorem aRo.warm {A : Nat → Prop} {s U : State} {H : Heap} (hW : s.WarmedH U.vm) (h : aRo A s H) : aRo A U H := by
  obtain ⟨a, b, k, v, h1, h2, h3, h4, h5, h6, h7⟩ := h
  exact ⟨a, b, k, v, h1.moved hW.alike, h2.moved hW.alike, h3.moved hW.alike, h4.moved hW.alike, h5.moved hW.alike, h6.moved hW.alike, h7.warm hW⟩
theorem aRo.same {A : Nat → Prop} {u U : State} {H : Heap} (e : u.vm = U.vm) (h : aRo A u H) : aRo A U H := by
  have al : u.vm.Alike U.vm := by rw [e]; exact Vm.Alike.refl _
  obtain ⟨a, b, k, v, h1, h2, h3, h4, h5, h6, h7⟩ := h
  exact ⟨a, b, k, v, h1.moved al, h2.moved al, h3.moved al, h4.moved al, h5.moved al, h6.moved al, h7.same e.symm⟩
/-- at a call -/
theorem aRo.at {A : Nat → Prop} {s U : State} {H : Heap} {locs : List Loc} {ws : va_W} (h : aRo A s s.heap) (hS : va_S A s.heap H locs) (hD : va_D A ws) (hA : ∀ q, s.heap.size ≤ q → A q) (hW : s.WarmedH U.vm) : aRo (va_A ws H.size) U H := by
  refine ((h.kept hS.2.1).warm hW).narrow (fun q hq => ?_)
  rcases hq with ⟨k, e, hk⟩ | hq
  · exact hD.2 k _ hk
  · exact hA q (Nat.le_trans hS.1 hq)
