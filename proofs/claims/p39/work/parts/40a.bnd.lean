/-! EXACT ROOM: an operation makes what the heap grows by, whatever room there is; a run without a measure of room, and what it says of the one with -/
section BND
def szC (c : aC) : Nat := match c with
  | .inl o => o.2.length
  | .inr x => aLen x.2
def sz (h : aH) : Nat := (h.map szC).sum
theorem sz_set {h : aH} {a : Nat} {c c' : aC} (ha : h[a]? = some c) (e : szC c' = szC c) : sz (h.set a c') = sz h := by
  have e2 : (h.set a c').map szC = h.map szC := by
    refine List.ext_getElem? (fun i => ?_)
    rw [List.getElem?_map, List.getElem?_map]
    by_cases q : a = i
    · subst q
      rw [List.getElem?_set_self (List.getElem?_eq_some_iff.mp ha).1, ha]
      exact congrArg some e
    · rw [List.getElem?_set_ne q]
  unfold sz
  rw [e2]
theorem sz_app {h g : aH} : sz (h ++ g) = sz h + sz g := by
  unfold sz
  rw [List.map_append, List.sum_append]
theorem sz_one {c : aC} : sz [c] = szC c := by
  unfold sz
  simp
def BndO (g : aF → Option (Nat × aF)) : Prop := ∀ (al : aL) (st : List aV) (h : aH) (kc ks : Nat) (r : Nat × aF), g (al, st, h, kc, ks) = some r → h.length ≤ r.2.2.2.1.length ∧ sz h ≤ sz r.2.2.2.1 ∧ ∀ kc2 ks2 : Nat, r.2.2.2.1.length - h.length ≤ kc2 → sz r.2.2.2.1 - sz h ≤ ks2 → g (al, st, h, kc2, ks2) = some (r.1, r.2.1, r.2.2.1, r.2.2.2.1, kc2 - (r.2.2.2.1.length - h.length), ks2 - (sz r.2.2.2.1 - sz h))
def BndK (g : aF → Option (Nat × aF)) : Prop := ∀ (al : aL) (st : List aV) (h : aH) (k : Nat × Nat), (∀ k2 : Nat × Nat, g (al, st, h, k2) = (g (al, st, h, k)).map (fun r => (r.1, r.2.1, r.2.2.1, r.2.2.2.1, k2))) ∧ ∀ r, g (al, st, h, k) = some r → r.2.2.2.1.length = h.length ∧ sz r.2.2.2.1 = sz h
theorem BndK.o {g : aF → Option (Nat × aF)} (hg : BndK g) : BndO g := by
  intro al st h kc ks r hr
  obtain ⟨h1, h2⟩ := hg al st h (kc, ks)
  obtain ⟨h3, h4⟩ := h2 r hr
  refine ⟨by omega, by omega, fun kc2 ks2 _ _ => ?_⟩
  rw [h1 (kc2, ks2), hr, h3, h4, Nat.sub_self, Nat.sub_self, Nat.sub_zero, Nat.sub_zero]
  rfl
theorem b_oPush {n : Nat} {v : aV} : BndO (oPush n v) := by
  refine BndK.o (fun al st h k => ⟨fun k2 => ?_, fun r hg => ?_⟩)
  · unfold oPush
    try dsimp only
    repeat' split
    all_goals rfl
  · unfold oPush at hg
    try dsimp only at hg
    repeat' split at hg
    all_goals first | (cases hg; exact ⟨rfl, rfl⟩) | cases hg
theorem b_oLoadI {n : Nat} {i : Nat} : BndO (oLoadI n i) := by
  refine BndK.o (fun al st h k => ⟨fun k2 => ?_, fun r hg => ?_⟩)
  · unfold oLoadI
    try dsimp only
    repeat' split
    all_goals rfl
  · unfold oLoadI at hg
    try dsimp only at hg
    repeat' split at hg
    all_goals first | (cases hg; exact ⟨rfl, rfl⟩) | cases hg
theorem b_oLoadJ {n : Nat} {i : Nat} : BndO (oLoadJ n i) := by
  refine BndK.o (fun al st h k => ⟨fun k2 => ?_, fun r hg => ?_⟩)
  · unfold oLoadJ
    try dsimp only
    repeat' split
    all_goals rfl
  · unfold oLoadJ at hg
    try dsimp only at hg
    repeat' split at hg
    all_goals first | (cases hg; exact ⟨rfl, rfl⟩) | cases hg
theorem b_oLoadA {n : Nat} {i : Nat} : BndO (oLoadA n i) := by
  refine BndK.o (fun al st h k => ⟨fun k2 => ?_, fun r hg => ?_⟩)
  · unfold oLoadA
    try dsimp only
    repeat' split
    all_goals rfl
  · unfold oLoadA at hg
    try dsimp only at hg
    repeat' split at hg
    all_goals first | (cases hg; exact ⟨rfl, rfl⟩) | cases hg
theorem b_oStI {n : Nat} {i : Nat} : BndO (oStI n i) := by
  refine BndK.o (fun al st h k => ⟨fun k2 => ?_, fun r hg => ?_⟩)
  · unfold oStI
    try dsimp only
    repeat' split
    all_goals rfl
  · unfold oStI at hg
    try dsimp only at hg
    repeat' split at hg
    all_goals first | (cases hg; exact ⟨rfl, rfl⟩) | cases hg
theorem b_oStA {n : Nat} {i : Nat} : BndO (oStA n i) := by
  refine BndK.o (fun al st h k => ⟨fun k2 => ?_, fun r hg => ?_⟩)
  · unfold oStA
    try dsimp only
    repeat' split
    all_goals rfl
  · unfold oStA at hg
    try dsimp only at hg
    repeat' split at hg
    all_goals first | (cases hg; exact ⟨rfl, rfl⟩) | cases hg
theorem b_oStJ {n : Nat} {i : Nat} : BndO (oStJ n i) := by
  refine BndK.o (fun al st h k => ⟨fun k2 => ?_, fun r hg => ?_⟩)
  · unfold oStJ
    try dsimp only
    repeat' split
    all_goals rfl
  · unfold oStJ at hg
    try dsimp only at hg
    repeat' split at hg
    all_goals first | (cases hg; exact ⟨rfl, rfl⟩) | cases hg
theorem b_oInc {n : Nat} {i : Nat} {d : Int32} : BndO (oInc n i d) := by
  refine BndK.o (fun al st h k => ⟨fun k2 => ?_, fun r hg => ?_⟩)
  · unfold oInc
    try dsimp only
    repeat' split
    all_goals rfl
  · unfold oInc at hg
    try dsimp only at hg
    repeat' split at hg
    all_goals first | (cases hg; exact ⟨rfl, rfl⟩) | cases hg
theorem b_oBin {n : Nat} {q : Int32 → Int32 → Int32} : BndO (oBin n q) := by
  refine BndK.o (fun al st h k => ⟨fun k2 => ?_, fun r hg => ?_⟩)
  · unfold oBin
    try dsimp only
    repeat' split
    all_goals rfl
  · unfold oBin at hg
    try dsimp only at hg
    repeat' split at hg
    all_goals first | (cases hg; exact ⟨rfl, rfl⟩) | cases hg
theorem b_oUn {n : Nat} {q : Int32 → Int32} : BndO (oUn n q) := by
  refine BndK.o (fun al st h k => ⟨fun k2 => ?_, fun r hg => ?_⟩)
  · unfold oUn
    try dsimp only
    repeat' split
    all_goals rfl
  · unfold oUn at hg
    try dsimp only at hg
    repeat' split at hg
    all_goals first | (cases hg; exact ⟨rfl, rfl⟩) | cases hg
theorem b_oDiv {n : Nat} {q : Int32 → Int32 → Int32} : BndO (oDiv n q) := by
  refine BndK.o (fun al st h k => ⟨fun k2 => ?_, fun r hg => ?_⟩)
  · unfold oDiv
    try dsimp only
    repeat' split
    all_goals rfl
  · unfold oDiv at hg
    try dsimp only at hg
    repeat' split at hg
    all_goals first | (cases hg; exact ⟨rfl, rfl⟩) | cases hg
theorem b_oBinJ {n : Nat} {q : Int64 → Int64 → Int64} : BndO (oBinJ n q) := by
  refine BndK.o (fun al st h k => ⟨fun k2 => ?_, fun r hg => ?_⟩)
  · unfold oBinJ
    try dsimp only
    repeat' split
    all_goals rfl
  · unfold oBinJ at hg
    try dsimp only at hg
    repeat' split at hg
    all_goals first | (cases hg; exact ⟨rfl, rfl⟩) | cases hg
theorem b_oCmpJ {n : Nat} {q : Int64 → Int64 → Int32} : BndO (oCmpJ n q) := by
  refine BndK.o (fun al st h k => ⟨fun k2 => ?_, fun r hg => ?_⟩)
  · unfold oCmpJ
    try dsimp only
    repeat' split
    all_goals rfl
  · unfold oCmpJ at hg
    try dsimp only at hg
    repeat' split at hg
    all_goals first | (cases hg; exact ⟨rfl, rfl⟩) | cases hg
theorem b_oShJ {n : Nat} {q : Int64 → Int32 → Int64} : BndO (oShJ n q) := by
  refine BndK.o (fun al st h k => ⟨fun k2 => ?_, fun r hg => ?_⟩)
  · unfold oShJ
    try dsimp only
    repeat' split
    all_goals rfl
  · unfold oShJ at hg
    try dsimp only at hg
    repeat' split at hg
    all_goals first | (cases hg; exact ⟨rfl, rfl⟩) | cases hg
theorem b_oI2L {n : Nat} : BndO (oI2L n) := by
  refine BndK.o (fun al st h k => ⟨fun k2 => ?_, fun r hg => ?_⟩)
  · unfold oI2L
    try dsimp only
    repeat' split
    all_goals rfl
  · unfold oI2L at hg
    try dsimp only at hg
    repeat' split at hg
    all_goals first | (cases hg; exact ⟨rfl, rfl⟩) | cases hg
theorem b_oL2I {n : Nat} : BndO (oL2I n) := by
  refine BndK.o (fun al st h k => ⟨fun k2 => ?_, fun r hg => ?_⟩)
  · unfold oL2I
    try dsimp only
    repeat' split
    all_goals rfl
  · unfold oL2I at hg
    try dsimp only at hg
    repeat' split at hg
    all_goals first | (cases hg; exact ⟨rfl, rfl⟩) | cases hg
theorem b_oIf1 {t : Nat} {n : Nat} {q : Int32 → Bool} : BndO (oIf1 t n q) := by
  refine BndK.o (fun al st h k => ⟨fun k2 => ?_, fun r hg => ?_⟩)
  · unfold oIf1
    try dsimp only
    repeat' split
    all_goals rfl
  · unfold oIf1 at hg
    try dsimp only at hg
    repeat' split at hg
    all_goals first | (cases hg; exact ⟨rfl, rfl⟩) | cases hg
theorem b_oIf2 {t : Nat} {n : Nat} {q : Int32 → Int32 → Bool} : BndO (oIf2 t n q) := by
  refine BndK.o (fun al st h k => ⟨fun k2 => ?_, fun r hg => ?_⟩)
  · unfold oIf2
    try dsimp only
    repeat' split
    all_goals rfl
  · unfold oIf2 at hg
    try dsimp only at hg
    repeat' split at hg
    all_goals first | (cases hg; exact ⟨rfl, rfl⟩) | cases hg
theorem b_oNul {a : Nat} {b : Nat} : BndO (oNul a b) := by
  refine BndK.o (fun al st h k => ⟨fun k2 => ?_, fun r hg => ?_⟩)
  · unfold oNul
    try dsimp only
    repeat' split
    all_goals rfl
  · unfold oNul at hg
    try dsimp only at hg
    repeat' split at hg
    all_goals first | (cases hg; exact ⟨rfl, rfl⟩) | cases hg
theorem b_oGo {n : Nat} : BndO (oGo n) := by
  refine BndK.o (fun al st h k => ⟨fun k2 => ?_, fun r hg => ?_⟩)
  · unfold oGo
    try dsimp only
    repeat' split
    all_goals rfl
  · unfold oGo at hg
    try dsimp only at hg
    repeat' split at hg
    all_goals first | (cases hg; exact ⟨rfl, rfl⟩) | cases hg
theorem b_oGet {n : Nat} {ci : Nat} {k : Nat} : BndO (oGet n ci k) := by
  refine BndK.o (fun al st h k => ⟨fun k2 => ?_, fun r hg => ?_⟩)
  · unfold oGet
    try dsimp only
    repeat' split
    all_goals rfl
  · unfold oGet at hg
    try dsimp only at hg
    repeat' split at hg
    all_goals first | (cases hg; exact ⟨rfl, rfl⟩) | cases hg
theorem b_oAld {n : Nat} {kd : Nat} : BndO (oAld n kd) := by
  refine BndK.o (fun al st h k => ⟨fun k2 => ?_, fun r hg => ?_⟩)
  · unfold oAld
    try dsimp only
    repeat' split
    all_goals rfl
  · unfold oAld at hg
    try dsimp only at hg
    repeat' split at hg
    all_goals first | (cases hg; exact ⟨rfl, rfl⟩) | cases hg
theorem b_oAldJ {n : Nat} : BndO (oAldJ n) := by
  refine BndK.o (fun al st h k => ⟨fun k2 => ?_, fun r hg => ?_⟩)
  · unfold oAldJ
    try dsimp only
    repeat' split
    all_goals rfl
  · unfold oAldJ at hg
    try dsimp only at hg
    repeat' split at hg
    all_goals first | (cases hg; exact ⟨rfl, rfl⟩) | cases hg
theorem b_oAldA {n : Nat} {kd : Nat} : BndO (oAldA n kd) := by
  refine BndK.o (fun al st h k => ⟨fun k2 => ?_, fun r hg => ?_⟩)
  · unfold oAldA
    try dsimp only
    repeat' split
    all_goals rfl
  · unfold oAldA at hg
    try dsimp only at hg
    repeat' split at hg
    all_goals first | (cases hg; exact ⟨rfl, rfl⟩) | cases hg
theorem b_oLen {n : Nat} : BndO (oLen n) := by
  refine BndK.o (fun al st h k => ⟨fun k2 => ?_, fun r hg => ?_⟩)
  · unfold oLen
    try dsimp only
    repeat' split
    all_goals rfl
  · unfold oLen at hg
    try dsimp only at hg
    repeat' split at hg
    all_goals first | (cases hg; exact ⟨rfl, rfl⟩) | cases hg
theorem b_oTab {d : Nat} {lo : Int} {ts : List Nat} : BndO (oTab d lo ts) := by
  refine BndK.o (fun al st h k => ⟨fun k2 => ?_, fun r hg => ?_⟩)
  · unfold oTab
    try dsimp only
    repeat' split
    all_goals rfl
  · unfold oTab at hg
    try dsimp only at hg
    repeat' split at hg
    all_goals first | (cases hg; exact ⟨rfl, rfl⟩) | cases hg
theorem b_oSwi {q : Nat} {d : Int} {ps : List (Int × Int)} : BndO (oSwi q d ps) := by
  refine BndK.o (fun al st h k => ⟨fun k2 => ?_, fun r hg => ?_⟩)
  · unfold oSwi
    try dsimp only
    repeat' split
    all_goals rfl
  · unfold oSwi at hg
    try dsimp only at hg
    repeat' split at hg
    all_goals first | (cases hg; exact ⟨rfl, rfl⟩) | cases hg
theorem b_oObj {n : Nat} : BndO (oObj n) := by
  refine BndK.o (fun al st h k => ⟨fun k2 => ?_, fun r hg => ?_⟩)
  · unfold oObj
    try dsimp only
    repeat' split
    all_goals rfl
  · unfold oObj at hg
    try dsimp only at hg
    repeat' split at hg
    all_goals first | (cases hg; exact ⟨rfl, rfl⟩) | cases hg
theorem b_oFail  : BndO (oFail ) := by
  refine BndK.o (fun al st h k => ⟨fun k2 => ?_, fun r hg => ?_⟩)
  · unfold oFail
    try dsimp only
    repeat' split
    all_goals rfl
  · unfold oFail at hg
    try dsimp only at hg
    repeat' split at hg
    all_goals first | (cases hg; exact ⟨rfl, rfl⟩) | cases hg
theorem b_oRd1 {n : Nat} {i : Nat} {l : List Int32} : BndO (oRd1 n i l) := by
  refine BndK.o (fun al st h k => ⟨fun k2 => ?_, fun r hg => ?_⟩)
  · unfold oRd1
    try dsimp only
    repeat' split
    all_goals rfl
  · unfold oRd1 at hg
    try dsimp only at hg
    repeat' split at hg
    all_goals first | (cases hg; exact ⟨rfl, rfl⟩) | cases hg
theorem b_oRd4 {n : Nat} {i : Nat} {j : Nat} {l : List Int32} : BndO (oRd4 n i j l) := by
  refine BndK.o (fun al st h k => ⟨fun k2 => ?_, fun r hg => ?_⟩)
  · unfold oRd4
    try dsimp only
    repeat' split
    all_goals rfl
  · unfold oRd4 at hg
    try dsimp only at hg
    repeat' split at hg
    all_goals first | (cases hg; exact ⟨rfl, rfl⟩) | cases hg
theorem b_oIdx {n : Nat} {i : Nat} : BndO (oIdx n i) := by
  refine BndK.o (fun al st h k => ⟨fun k2 => ?_, fun r hg => ?_⟩)
  · unfold oIdx
    try dsimp only
    repeat' split
    all_goals rfl
  · unfold oIdx at hg
    try dsimp only at hg
    repeat' split at hg
    all_goals first | (cases hg; exact ⟨rfl, rfl⟩) | cases hg
theorem b_oDup {n : Nat} : BndO (oDup n) := by
  refine BndK.o (fun al st h k => ⟨fun k2 => ?_, fun r hg => ?_⟩)
  · unfold oDup
    dsimp only
    split
    · rename_i v r
      cases a1 v <;> rfl
    · rfl
  · unfold oDup at hg
    dsimp only at hg
    split at hg
    · rename_i v r0
      cases hv : a1 v with
      | true => rw [hv] at hg; cases hg; exact ⟨rfl, rfl⟩
      | false => rw [hv] at hg; cases hg
    · cases hg
theorem b_oPop {n : Nat} : BndO (oPop n) := by
  refine BndK.o (fun al st h k => ⟨fun k2 => ?_, fun r hg => ?_⟩)
  · unfold oPop
    dsimp only
    split
    · rename_i v r
      cases a1 v <;> rfl
    · rfl
  · unfold oPop at hg
    dsimp only at hg
    split at hg
    · rename_i v r0
      cases hv : a1 v with
      | true => rw [hv] at hg; cases hg; exact ⟨rfl, rfl⟩
      | false => rw [hv] at hg; cases hg
    · cases hg
theorem b_oDup2 {n : Nat} : BndO (oDup2 n) := by
  refine BndK.o (fun al st h k => ⟨fun k2 => ?_, fun r hg => ?_⟩)
  · unfold oDup2
    dsimp only
    split
    · rename_i v w r
      cases a1 v && a1 w <;> rfl
    · rfl
  · unfold oDup2 at hg
    dsimp only at hg
    split at hg
    · rename_i v w r0
      cases hv : (a1 v && a1 w) with
      | true => rw [hv] at hg; cases hg; exact ⟨rfl, rfl⟩
      | false => rw [hv] at hg; cases hg
    · cases hg
theorem b_oPut {n ci k0 : Nat} {ty : FieldType} : BndO (oPut n ci k0 ty) := by
  refine BndK.o (fun al st h k => ⟨fun k2 => ?_, fun r hg => ?_⟩)
  · unfold oPut
    dsimp only
    split
    · rename_i v a r
      split
      · split
        · cases aFit ty v <;> rfl
        · rfl
      · rfl
    · rfl
  · unfold oPut at hg
    dsimp only at hg
    split at hg
    · rename_i v a r0
      split at hg
      · rename_i cj fs ha
        split at hg
        · cases hv : aFit ty v with
          | true =>
            rw [hv] at hg
            cases hg
            exact ⟨List.length_set .., sz_set ha (by simp [szC])⟩
          | false => rw [hv] at hg; cases hg
        · cases hg
      · cases hg
    · cases hg
theorem b_oAst {n : Nat} {kd : Nat} {nar : Int32 → Int32} : BndO (oAst n kd nar) := by
  refine BndK.o (fun al st h k => ⟨fun k2 => ?_, fun r hg => ?_⟩)
  · unfold oAst
    dsimp only
    repeat' split
    all_goals rfl
  · unfold oAst at hg
    dsimp only at hg
    repeat' split at hg
    all_goals first | (cases hg; exact ⟨List.length_set .., sz_set ‹_› (by simp [szC, aLen, cpL_len])⟩) | cases hg
theorem b_oAstJ {n : Nat} : BndO (oAstJ n) := by
  refine BndK.o (fun al st h k => ⟨fun k2 => ?_, fun r hg => ?_⟩)
  · unfold oAstJ
    dsimp only
    repeat' split
    all_goals rfl
  · unfold oAstJ at hg
    dsimp only at hg
    repeat' split at hg
    all_goals first | (cases hg; exact ⟨List.length_set .., sz_set ‹_› (by simp [szC, aLen, cpL_len])⟩) | cases hg
theorem b_oAstA {n : Nat} {kd : Nat} {ci : Nat} : BndO (oAstA n kd ci) := by
  refine BndK.o (fun al st h k => ⟨fun k2 => ?_, fun r hg => ?_⟩)
  · unfold oAstA
    dsimp only
    repeat' split
    all_goals rfl
  · unfold oAstA at hg
    dsimp only at hg
    repeat' split at hg
    all_goals first | (cases hg; exact ⟨List.length_set .., sz_set ‹_› (by simp [szC, aLen, cpL_len])⟩) | cases hg
theorem b_oCpI {n : Nat} : BndO (oCpI n) := by
  refine BndK.o (fun al st h k => ⟨fun k2 => ?_, fun r hg => ?_⟩)
  · unfold oCpI
    dsimp only
    repeat' split
    all_goals rfl
  · unfold oCpI at hg
    dsimp only at hg
    repeat' split at hg
    all_goals first | (cases hg; exact ⟨List.length_set .., sz_set ‹_› (by simp [szC, aLen, cpL_len])⟩) | cases hg
theorem b_oCpJ {n : Nat} : BndO (oCpJ n) := by
  refine BndK.o (fun al st h k => ⟨fun k2 => ?_, fun r hg => ?_⟩)
  · unfold oCpJ
    dsimp only
    repeat' split
    all_goals rfl
  · unfold oCpJ at hg
    dsimp only at hg
    repeat' split at hg
    all_goals first | (cases hg; exact ⟨List.length_set .., sz_set ‹_› (by simp [szC, aLen, cpL_len])⟩) | cases hg
theorem b_oMabs {n : Nat} : BndO (oMabs n) := by
  refine BndK.o (fun al st h k => ⟨fun k2 => ?_, fun r hg => ?_⟩)
  · unfold oMabs oUn
    dsimp only
    repeat' split
    all_goals rfl
  · unfold oMabs oUn at hg
    dsimp only at hg
    repeat' split at hg
    all_goals first | (cases hg; exact ⟨rfl, rfl⟩) | cases hg
theorem b_oMmax {n : Nat} : BndO (oMmax n) := by
  refine BndK.o (fun al st h k => ⟨fun k2 => ?_, fun r hg => ?_⟩)
  · unfold oMmax oBin
    dsimp only
    repeat' split
    all_goals rfl
  · unfold oMmax oBin at hg
    dsimp only at hg
    repeat' split at hg
    all_goals first | (cases hg; exact ⟨rfl, rfl⟩) | cases hg
theorem b_oMmin {n : Nat} : BndO (oMmin n) := by
  refine BndK.o (fun al st h k => ⟨fun k2 => ?_, fun r hg => ?_⟩)
  · unfold oMmin oBin
    dsimp only
    repeat' split
    all_goals rfl
  · unfold oMmin oBin at hg
    dsimp only at hg
    repeat' split at hg
    all_goals first | (cases hg; exact ⟨rfl, rfl⟩) | cases hg
theorem b_oNew {n ci : Nat} {dfs : List aV} : BndO (oNew n ci dfs) := by
  intro al st h kc ks r hg
  unfold oNew at hg ⊢
  dsimp only at hg ⊢
  split at hg
  · cases hg
    dsimp only
    have e1 : (h ++ [Sum.inl (ci, dfs)] : aH).length - h.length = 1 := by simp
    have e2 : sz (h ++ [Sum.inl (ci, dfs)]) - sz h = dfs.length := by rw [sz_app, sz_one]; show sz h + dfs.length - sz h = _; omega
    refine ⟨by simp, by rw [sz_app]; omega, fun kc2 ks2 l1 l2 => ?_⟩
    rw [e1] at l1 ⊢
    rw [e2] at l2 ⊢
    rw [if_pos ⟨l1, l2⟩]
  · cases hg
theorem b_oNewI {n : Nat} {kd : Nat} : BndO (oNewI n kd) := by
  intro al st h kc ks r hg
  unfold oNewI at hg ⊢
  dsimp only at hg ⊢
  split at hg
  · rename_i i r0
    split at hg
    · rename_i hc
      cases hg
      dsimp only
      have e1 : (h ++ [Sum.inr (kd, .inl (List.replicate i.toNatClampNeg 0))] : aH).length - h.length = 1 := by simp
      have e2 : sz (h ++ [Sum.inr (kd, .inl (List.replicate i.toNatClampNeg 0))]) - sz h = i.toNatClampNeg := by rw [sz_app, sz_one]; simp [szC, aLen]
      refine ⟨by simp, by rw [sz_app]; omega, fun kc2 ks2 l1 l2 => ?_⟩
      rw [e1] at l1 ⊢
      rw [e2] at l2 ⊢
      rw [if_pos ⟨hc.1, hc.2.1, l1, l2⟩]
    · cases hg
  · cases hg
theorem b_oNewJ {n : Nat} : BndO (oNewJ n) := by
  intro al st h kc ks r hg
  unfold oNewJ at hg ⊢
  dsimp only at hg ⊢
  split at hg
  · rename_i i r0
    split at hg
    · rename_i hc
      cases hg
      dsimp only
      have e1 : (h ++ [Sum.inr (4, .inr (.inl (List.replicate i.toNatClampNeg 0)))] : aH).length - h.length = 1 := by simp
      have e2 : sz (h ++ [Sum.inr (4, .inr (.inl (List.replicate i.toNatClampNeg 0)))]) - sz h = i.toNatClampNeg := by rw [sz_app, sz_one]; simp [szC, aLen]
      refine ⟨by simp, by rw [sz_app]; omega, fun kc2 ks2 l1 l2 => ?_⟩
      rw [e1] at l1 ⊢
      rw [e2] at l2 ⊢
      rw [if_pos ⟨hc.1, hc.2.1, l1, l2⟩]
    · cases hg
  · cases hg
theorem b_oNewA {n : Nat} {kd : Nat} : BndO (oNewA n kd) := by
  intro al st h kc ks r hg
  unfold oNewA at hg ⊢
  dsimp only at hg ⊢
  split at hg
  · rename_i i r0
    split at hg
    · rename_i hc
      cases hg
      dsimp only
      have e1 : (h ++ [Sum.inr (kd, .inr (.inr (List.replicate i.toNatClampNeg none)))] : aH).length - h.length = 1 := by simp
      have e2 : sz (h ++ [Sum.inr (kd, .inr (.inr (List.replicate i.toNatClampNeg none)))]) - sz h = i.toNatClampNeg := by rw [sz_app, sz_one]; simp [szC, aLen]
      refine ⟨by simp, by rw [sz_app]; omega, fun kc2 ks2 l1 l2 => ?_⟩
      rw [e1] at l1 ⊢
      rw [e2] at l2 ⊢
      rw [if_pos ⟨hc.1, hc.2.1, l1, l2⟩]
    · cases hg
  · cases hg
theorem sz_rep {c : aC} : ∀ n : Nat, sz (List.replicate n c) = n * szC c
  | 0 => by unfold sz; simp
  | n + 1 => by
    rw [List.replicate_succ, show (c :: List.replicate n c) = [c] ++ List.replicate n c from rfl, sz_app, sz_one, sz_rep n, Nat.succ_mul, Nat.add_comm]
theorem b_oMul {n : Nat} : BndO (oMul n) := by
  intro al st h kc ks r hg
  unfold oMul at hg ⊢
  dsimp only at hg ⊢
  split at hg
  · rename_i k i r0
    split at hg
    · rename_i hc
      cases hg
      dsimp only
      have e1 : ∀ X : aC, ((h ++ [X]) ++ List.replicate i.toNatClampNeg (Sum.inr (4, Sum.inr (Sum.inl (List.replicate k.toNatClampNeg 0)))) : aH).length - h.length = 1 + i.toNatClampNeg := fun X => by simp; omega
      have e0 : sz (List.replicate i.toNatClampNeg (Sum.inr (4, Sum.inr (Sum.inl (List.replicate k.toNatClampNeg 0)))) : aH) = i.toNatClampNeg * k.toNatClampNeg := by rw [sz_rep]; simp [szC, aLen]
      have e2 : ∀ ls : List (Option Nat), ls.length = i.toNatClampNeg → sz ((h ++ [Sum.inr (8, Sum.inr (Sum.inr ls))]) ++ List.replicate i.toNatClampNeg (Sum.inr (4, Sum.inr (Sum.inl (List.replicate k.toNatClampNeg 0))))) = sz h + (i.toNatClampNeg + i.toNatClampNeg * k.toNatClampNeg) := fun ls hl => by
        rw [sz_app, sz_app, sz_one, e0]
        show sz h + ls.length + _ = _
        rw [hl, Nat.add_assoc]
      have l0 : ((List.range i.toNatClampNeg).map (fun j => some (h.length + 1 + j))).length = i.toNatClampNeg := by rw [List.length_map, List.length_range]
      refine ⟨by simp, by rw [e2 _ l0]; omega, fun kc2 ks2 l1 l2 => ?_⟩
      rw [e1] at l1 ⊢
      rw [e2 _ l0, Nat.add_sub_cancel_left] at l2 ⊢
      rw [if_pos ⟨hc.1, hc.2.1, hc.2.2.1, hc.2.2.2.1, l1, l2⟩]
    · cases hg
  · cases hg
def BndQ (o : aOp) : Prop := match o with
  | .inl g => BndO g
  | .inr _ => True
def uM : Nat := 1000000
/-- a step where room is no matter -/
def uStep (C : aCE) (P : Option aV → aH → Prop) (N : Nat → aF → Prop) (o : aOp) (pc : Nat) (f : aF) : Prop := match o with
  | .inl g => match g (f.1, f.2.1, f.2.2.1, uM, uM) with
    | some r => N r.1 (r.2.1, r.2.2.1, r.2.2.2.1, f.2.2.2)
    | none => False
  | .inr (.inl q) => aRcv q.2.2 f.2.2.1 (f.2.1.take q.2.1).reverse = true ∧ q.2.1 ≤ f.2.1.length ∧ (f.2.1.drop q.2.1).length ≤ 4 ∧ C q.1 (f.2.1.take q.2.1).reverse f.2.2.1 0 0 (fun r h' => N (pc + 3) (f.1, r.toList ++ f.2.1.drop q.2.1, h', f.2.2.2))
  | .inr (.inr k) => match f.2.1 with
    | [] => k = 0 ∧ P none f.2.2.1
    | [v] => aRet k v = true ∧ P (some v) f.2.2.1
    | _ => False
def uRun (T : aTab) (C : aCE) (P : Option aV → aH → Prop) (pc : Nat) (f : aF) : Prop := ∀ I : Nat → aF → Prop, (∀ pc f, (∃ o, aAt T pc = some o ∧ uStep C P I o pc f) → I pc f) → I pc f
def uCall (Mt : List aMd) : Nat → aCE
  | 0 => fun _ _ _ _ _ _ => False
  | d + 1 => fun mi vs h mc ms P => ∃ M : aMd, Mt[mi]? = some M ∧ (aEn vs).length ≤ M.2.2.1 ∧ uRun M.2.2.2.2 (uCall Mt d) P 0 (aEnt vs M.2.2.1, [], h, mc, ms)
theorem uStep_mono {C : aCE} (hC : aMono C) {P P' : Option aV → aH → Prop} {N N' : Nat → aF → Prop} (hP : ∀ r h, P r h → P' r h) (hN : ∀ pc f, N pc f → N' pc f) {o : aOp} {pc : Nat} {f : aF} (h : uStep C P N o pc f) : uStep C P' N' o pc f := by
  match o with
  | .inl g =>
    have h : (match g (f.1, f.2.1, f.2.2.1, uM, uM) with
      | some r => N r.1 (r.2.1, r.2.2.1, r.2.2.2.1, f.2.2.2)
      | none => False) := h
    show (match g (f.1, f.2.1, f.2.2.1, uM, uM) with
      | some r => N' r.1 (r.2.1, r.2.2.1, r.2.2.2.1, f.2.2.2)
      | none => False)
    cases hg : g (f.1, f.2.1, f.2.2.1, uM, uM) with
    | none => rw [hg] at h; exact h
    | some r => rw [hg] at h; exact hN _ _ h
  | .inr (.inl q) =>
    obtain ⟨a1, a2, a3, a6⟩ := h
    exact ⟨a1, a2, a3, hC _ _ _ _ _ _ _ (fun r h' hh => hN _ _ hh) a6⟩
  | .inr (.inr k) =>
    unfold uStep at h ⊢
    dsimp only at h ⊢
    split at h
    · exact ⟨h.1, hP _ _ h.2⟩
    · exact ⟨h.1, hP _ _ h.2⟩
    · exact h.elim
theorem uRun_mono {C : aCE} (hC : aMono C) {T : aTab} {P P' : Option aV → aH → Prop} (hP : ∀ r h, P r h → P' r h) {pc : Nat} {f : aF} (h : uRun T C P pc f) : uRun T C P' pc f := fun I hI => h I (fun pc f ⟨o, ho, hs⟩ => hI pc f ⟨o, ho, uStep_mono hC hP (fun _ _ x => x) hs⟩)
theorem uCall_mono {Mt : List aMd} : ∀ d : Nat, aMono (uCall Mt d)
  | 0 => fun _ _ _ _ _ _ _ _ h => h
  | d + 1 => fun mi vs h mc ms Q Q' hQ hh => by
    obtain ⟨M, h1, h2, h3⟩ := hh
    exact ⟨M, h1, h2, uRun_mono (uCall_mono d) hQ h3⟩
/-- what C says, C' says with just the room that it takes, and of one end -/
def uEx (C C' : aCE) : Prop := ∀ (mi : Nat) (vs : List aV) (h : aH) (mc ms : Nat) (Q : Option aV → aH → Prop), C mi vs h mc ms Q → ∃ r h', Q r h' ∧ h.length ≤ h'.length ∧ sz h ≤ sz h' ∧ C' mi vs h (h'.length - h.length) (sz h' - sz h) (fun r2 h2 => r2 = r ∧ h2 = h')
theorem u_run {d : Nat} {C : aCE} (hC : uEx C (aCall Mt d)) {T : aTab} (hB : ∀ ch ∈ T, ∀ q ∈ ch, BndQ q.2) {P : Option aV → aH → Prop} {pc : Nat} {f : aF} (hr : uRun T C P pc f) : ∃ r h', P r h' ∧ f.2.2.1.length ≤ h'.length ∧ sz f.2.2.1 ≤ sz h' ∧ aRun T (aCall Mt d) (fun r2 h2 => r2 = r ∧ h2 = h') pc (f.1, f.2.1, f.2.2.1, h'.length - f.2.2.1.length, sz h' - sz f.2.2.1) := by
  refine hr (fun pc f => ∃ r h', P r h' ∧ f.2.2.1.length ≤ h'.length ∧ sz f.2.2.1 ≤ sz h' ∧ aRun T (aCall Mt d) (fun r2 h2 => r2 = r ∧ h2 = h') pc (f.1, f.2.1, f.2.2.1, h'.length - f.2.2.1.length, sz h' - sz f.2.2.1)) (fun pc f hh => ?_)
  obtain ⟨o, ho, hs⟩ := hh
  obtain ⟨al, st, h, kc, ks⟩ := f
  dsimp only at hs ⊢
  match o, ho, hs with
  | .inl g, ho, hs =>
    have hs : (match g (al, st, h, uM, uM) with
      | some r => _
      | none => False) := hs
    cases hg : g (al, st, h, uM, uM) with
    | none => rw [hg] at hs; exact hs.elim
    | some q =>
      rw [hg] at hs
      obtain ⟨r, h', hp, hl, hz, hrun⟩ := hs
      dsimp only at hl hz hrun
      obtain ⟨ch, m1, m2⟩ := aAt_mem ho
      obtain ⟨b1, b2, b3⟩ := (show BndO g from hB ch m1 _ m2) _ _ _ _ _ _ hg
      refine ⟨r, h', hp, by omega, by omega, ?_⟩
      have e := b3 (h'.length - h.length) (sz h' - sz h) (by omega) (by omega)
      refine ar_st ho e ?_
      rw [show h'.length - h.length - (q.2.2.2.1.length - h.length) = h'.length - q.2.2.2.1.length by omega, show sz h' - sz h - (sz q.2.2.2.1 - sz h) = sz h' - sz q.2.2.2.1 by omega]
      exact hrun
  | .inr (.inl q), ho, hs =>
    obtain ⟨a1, a2, a3, a4⟩ := hs
    obtain ⟨r0, h0, ⟨r, h', hp, hl, hz, hrun⟩, l0, z0, hc0⟩ := hC _ _ _ _ _ _ a4
    dsimp only at hl hz hrun l0 z0 hc0
    refine ⟨r, h', hp, by omega, by omega, ?_⟩
    refine ar_in ho ⟨h0.length - h.length, sz h0 - sz h, a1, a2, a3, by show h0.length - h.length ≤ h'.length - h.length; omega, by show sz h0 - sz h ≤ sz h' - sz h; omega, ?_⟩
    refine aCall_mono d _ _ _ _ _ _ _ (fun r2 h2 e => ?_) hc0
    obtain ⟨rfl, rfl⟩ := e
    show aRun T (aCall Mt d) _ (pc + 3) (al, _, _, h'.length - h.length - (h2.length - h.length), sz h' - sz h - (sz h2 - sz h))
    rw [show h'.length - h.length - (h2.length - h.length) = h'.length - h2.length by omega, show sz h' - sz h - (sz h2 - sz h) = sz h' - sz h2 by omega]
    exact hrun
  | .inr (.inr k), ho, hs =>
    match st, hs with
    | [], hs =>
      have hs : k = 0 ∧ P none h := hs
      exact ⟨none, h, hs.2, Nat.le_refl _, Nat.le_refl _, ar_in ho (show k = 0 ∧ _ from ⟨hs.1, rfl, rfl⟩)⟩
    | [v], hs =>
      have hs : aRet k v = true ∧ P (some v) h := hs
      exact ⟨some v, h, hs.2, Nat.le_refl _, Nat.le_refl _, ar_in ho (show aRet k v = true ∧ _ from ⟨hs.1, rfl, rfl⟩)⟩
    | _ :: _ :: _, hs => exact (show False from hs).elim
theorem u_call (hB : ∀ M ∈ Mt, ∀ ch ∈ M.2.2.2.2, ∀ q ∈ ch, BndQ q.2) : ∀ d : Nat, uEx (uCall Mt d) (aCall Mt d)
  | 0 => fun _ _ _ _ _ _ h => h.elim
  | d + 1 => fun mi vs h mc ms Q hh => by
    obtain ⟨M, h1, h2, h3⟩ := hh
    obtain ⟨r, h', hp, hl, hz, hrun⟩ := u_run (u_call hB d) (hB M (List.mem_of_getElem? h1)) h3
    exact ⟨r, h', hp, hl, hz, M, h1, h2, hrun⟩
end BND
