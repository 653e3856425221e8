/-! THE REFERENCE'S OBJECT: its fields one by one -/
section MOD
theorem gs_ne {fs : List aV} {k j : Nat} {v w : aV} (h : fs[j]? = some w) (hn : k ≠ j) : (fs.set k v)[j]? = some w := by rw [List.getElem?_set_ne hn]; exact h
theorem gs_eq {fs : List aV} {k : Nat} {v w : aV} (h : fs[k]? = some w) : (fs.set k v)[k]? = some v := by rw [List.getElem?_set_self (List.getElem?_eq_some_iff.mp h).1]
theorem OK.mod {h : aH} (hO : OK h) : ∃ fs, h[69]? = some (.inl (12, fs)) := by
  obtain ⟨fs, h1, -, -⟩ := hO.obj (a := 69) (ci := 12) (n := 69) (hO.2 69 (by decide)) (by decide)
  exact ⟨fs, h1⟩
theorem OK.msh {h : aH} (hO : OK h) {fs : List aV} (hc : h[69]? = some (.inl (12, fs))) : shO (tg h) 69 12 fs := hO.1 69 _ hc
theorem msh_len {τ : Nat → Nat × Nat} {a : Nat} {fs : List aV} (h : shO τ a 12 fs) : fs.length = 69 := by
  obtain ⟨-, v_code, v_greats, v_comets, v_degreeIs, v_distanceIs, v_eIs, v_taped, v_here, v_fault, v_opn, v_laid, v_watches, v_words, v_yearNow, v_monthNow, v_dayNow, v_spanFirst, v_spanLast, v_lookFrom, v_lookTo, v_evenings, v_drawn, v_nextDay, v_nextBy, v_traces, rfl, -⟩ := h
  rfl
theorem msh_c {τ : Nat → Nat × Nat} {fs : List aV} (h : shO τ 69 12 fs) : ∃ f : Nat → Int32, fs = [.inl (f 0), .inl (f 1), .inr (.inr (some 70)), .inr (.inr (some 71)), .inl (f 2), .inr (.inr (some 72)), .inr (.inr (some 73)), .inr (.inr (some 74)), .inr (.inr (some 75)), .inr (.inr (some 76)), .inr (.inr (some 77)), .inr (.inr (some 78)), .inr (.inr (some 79)), .inr (.inr (some 80)), .inr (.inr (some 81)), .inl (f 3), .inl (f 4), .inl (f 5), .inr (.inr (some 82)), .inl (f 6), .inl (f 7), .inl (f 8), .inl (f 9), .inl (f 10), .inr (.inr (some 83)), .inr (.inr (some 84)), .inr (.inr (some 85)), .inr (.inr (some 86)), .inr (.inr (some 87)), .inr (.inr (some 88)), .inr (.inr (some 89)), .inr (.inr (some 90)), .inr (.inr (some 91)), .inr (.inr (some 92)), .inl (f 11), .inr (.inr (some 93)), .inr (.inr (some 94)), .inr (.inr (some 95)), .inl (f 12), .inr (.inr (some 96)), .inr (.inr (some 97)), .inr (.inr (some 98)), .inr (.inr (some 99)), .inr (.inr (some 100)), .inr (.inr (some 101)), .inr (.inr (some 102)), .inr (.inr (some 103)), .inl (f 13), .inl (f 14), .inl (f 15), .inl (f 16), .inl (f 17), .inl (f 18), .inl (f 19), .inr (.inr (some 104)), .inr (.inr (some 105)), .inr (.inr (some 106)), .inl (f 20), .inr (.inr (some 107)), .inr (.inr (some 108)), .inl (f 21), .inl (f 22), .inl (f 23), .inl (f 24), .inr (.inr (some 109)), .inr (.inr (some 110)), .inr (.inr (some 111)), .inr (.inr (some 112)), .inr (.inr (some 113))] ∧ 0 ≤ (f 1).toInt ∧ (f 1).toInt ≤ 4 ∧ 0 ≤ (f 2).toInt ∧ (f 2).toInt ≤ 12 ∧ 0 ≤ (f 6).toInt ∧ (f 6).toInt ≤ 120 ∧ 0 ≤ (f 11).toInt ∧ (f 11).toInt ≤ 10 ∧ 0 ≤ (f 12).toInt ∧ (f 12).toInt ≤ 150 ∧ 0 ≤ (f 20).toInt ∧ (f 20).toInt ≤ 5 ∧ 0 ≤ (f 24).toInt ∧ (f 24).toInt ≤ 1000000 ∧ 0 ≤ (f 10).toInt ∧ (f 10).toInt ≤ 130 := by
  obtain ⟨-, v_code, v_greats, v_comets, v_degreeIs, v_distanceIs, v_eIs, v_taped, v_here, v_fault, v_opn, v_laid, v_watches, v_words, v_yearNow, v_monthNow, v_dayNow, v_spanFirst, v_spanLast, v_lookFrom, v_lookTo, v_evenings, v_drawn, v_nextDay, v_nextBy, v_traces, rfl, hr⟩ := h
  exact ⟨fun k => [v_code, v_greats, v_comets, v_degreeIs, v_distanceIs, v_eIs, v_taped, v_here, v_fault, v_opn, v_laid, v_watches, v_words, v_yearNow, v_monthNow, v_dayNow, v_spanFirst, v_spanLast, v_lookFrom, v_lookTo, v_evenings, v_drawn, v_nextDay, v_nextBy, v_traces].getD k 0, rfl, hr⟩
theorem mf_1 {h : aH} (hO : OK h) {fs : List aV} (hc : h[69]? = some (.inl (12, fs))) : ∃ x : Int32, fs[1]? = some (.inl x) ∧ 0 ≤ x.toInt ∧ x.toInt ≤ 4 := by
  obtain ⟨f, rfl, hr⟩ := msh_c (hO.msh hc)
  exact ⟨_, rfl, by omega⟩
theorem ms_1 {τ : Nat → Nat × Nat} {fs : List aV} {x : Int32} (h : shO τ 69 12 fs) (hx : 0 ≤ x.toInt ∧ x.toInt ≤ 4) : shO τ 69 12 (fs.set 1 (.inl x)) := by
  obtain ⟨f, rfl, hr⟩ := msh_c h
  exact ⟨rfl, f 0, x, f 2, f 3, f 4, f 5, f 6, f 7, f 8, f 9, f 10, f 11, f 12, f 13, f 14, f 15, f 16, f 17, f 18, f 19, f 20, f 21, f 22, f 23, f 24, rfl, by omega⟩
theorem mf_2 {h : aH} (hO : OK h) {fs : List aV} (hc : h[69]? = some (.inl (12, fs))) : fs[2]? = some (.inr (.inr (some 70))) := by
  obtain ⟨f, rfl, -⟩ := msh_c (hO.msh hc)
  rfl
theorem mf_3 {h : aH} (hO : OK h) {fs : List aV} (hc : h[69]? = some (.inl (12, fs))) : fs[3]? = some (.inr (.inr (some 71))) := by
  obtain ⟨f, rfl, -⟩ := msh_c (hO.msh hc)
  rfl
theorem mf_4 {h : aH} (hO : OK h) {fs : List aV} (hc : h[69]? = some (.inl (12, fs))) : ∃ x : Int32, fs[4]? = some (.inl x) ∧ 0 ≤ x.toInt ∧ x.toInt ≤ 12 := by
  obtain ⟨f, rfl, hr⟩ := msh_c (hO.msh hc)
  exact ⟨_, rfl, by omega⟩
theorem ms_4 {τ : Nat → Nat × Nat} {fs : List aV} {x : Int32} (h : shO τ 69 12 fs) (hx : 0 ≤ x.toInt ∧ x.toInt ≤ 12) : shO τ 69 12 (fs.set 4 (.inl x)) := by
  obtain ⟨f, rfl, hr⟩ := msh_c h
  exact ⟨rfl, f 0, f 1, x, f 3, f 4, f 5, f 6, f 7, f 8, f 9, f 10, f 11, f 12, f 13, f 14, f 15, f 16, f 17, f 18, f 19, f 20, f 21, f 22, f 23, f 24, rfl, by omega⟩
theorem mf_5 {h : aH} (hO : OK h) {fs : List aV} (hc : h[69]? = some (.inl (12, fs))) : fs[5]? = some (.inr (.inr (some 72))) := by
  obtain ⟨f, rfl, -⟩ := msh_c (hO.msh hc)
  rfl
theorem mf_6 {h : aH} (hO : OK h) {fs : List aV} (hc : h[69]? = some (.inl (12, fs))) : fs[6]? = some (.inr (.inr (some 73))) := by
  obtain ⟨f, rfl, -⟩ := msh_c (hO.msh hc)
  rfl
theorem mf_7 {h : aH} (hO : OK h) {fs : List aV} (hc : h[69]? = some (.inl (12, fs))) : fs[7]? = some (.inr (.inr (some 74))) := by
  obtain ⟨f, rfl, -⟩ := msh_c (hO.msh hc)
  rfl
theorem mf_8 {h : aH} (hO : OK h) {fs : List aV} (hc : h[69]? = some (.inl (12, fs))) : fs[8]? = some (.inr (.inr (some 75))) := by
  obtain ⟨f, rfl, -⟩ := msh_c (hO.msh hc)
  rfl
theorem mf_9 {h : aH} (hO : OK h) {fs : List aV} (hc : h[69]? = some (.inl (12, fs))) : fs[9]? = some (.inr (.inr (some 76))) := by
  obtain ⟨f, rfl, -⟩ := msh_c (hO.msh hc)
  rfl
theorem mf_10 {h : aH} (hO : OK h) {fs : List aV} (hc : h[69]? = some (.inl (12, fs))) : fs[10]? = some (.inr (.inr (some 77))) := by
  obtain ⟨f, rfl, -⟩ := msh_c (hO.msh hc)
  rfl
theorem mf_11 {h : aH} (hO : OK h) {fs : List aV} (hc : h[69]? = some (.inl (12, fs))) : fs[11]? = some (.inr (.inr (some 78))) := by
  obtain ⟨f, rfl, -⟩ := msh_c (hO.msh hc)
  rfl
theorem mf_12 {h : aH} (hO : OK h) {fs : List aV} (hc : h[69]? = some (.inl (12, fs))) : fs[12]? = some (.inr (.inr (some 79))) := by
  obtain ⟨f, rfl, -⟩ := msh_c (hO.msh hc)
  rfl
theorem mf_13 {h : aH} (hO : OK h) {fs : List aV} (hc : h[69]? = some (.inl (12, fs))) : fs[13]? = some (.inr (.inr (some 80))) := by
  obtain ⟨f, rfl, -⟩ := msh_c (hO.msh hc)
  rfl
theorem mf_14 {h : aH} (hO : OK h) {fs : List aV} (hc : h[69]? = some (.inl (12, fs))) : fs[14]? = some (.inr (.inr (some 81))) := by
  obtain ⟨f, rfl, -⟩ := msh_c (hO.msh hc)
  rfl
theorem mf_15 {h : aH} (hO : OK h) {fs : List aV} (hc : h[69]? = some (.inl (12, fs))) : ∃ x : Int32, fs[15]? = some (.inl x) := by
  obtain ⟨f, rfl, hr⟩ := msh_c (hO.msh hc)
  exact ⟨_, rfl⟩
theorem ms_15 {τ : Nat → Nat × Nat} {fs : List aV} {x : Int32} (h : shO τ 69 12 fs) : shO τ 69 12 (fs.set 15 (.inl x)) := by
  obtain ⟨f, rfl, hr⟩ := msh_c h
  exact ⟨rfl, f 0, f 1, f 2, x, f 4, f 5, f 6, f 7, f 8, f 9, f 10, f 11, f 12, f 13, f 14, f 15, f 16, f 17, f 18, f 19, f 20, f 21, f 22, f 23, f 24, rfl, by omega⟩
theorem mf_16 {h : aH} (hO : OK h) {fs : List aV} (hc : h[69]? = some (.inl (12, fs))) : ∃ x : Int32, fs[16]? = some (.inl x) := by
  obtain ⟨f, rfl, hr⟩ := msh_c (hO.msh hc)
  exact ⟨_, rfl⟩
theorem ms_16 {τ : Nat → Nat × Nat} {fs : List aV} {x : Int32} (h : shO τ 69 12 fs) : shO τ 69 12 (fs.set 16 (.inl x)) := by
  obtain ⟨f, rfl, hr⟩ := msh_c h
  exact ⟨rfl, f 0, f 1, f 2, f 3, x, f 5, f 6, f 7, f 8, f 9, f 10, f 11, f 12, f 13, f 14, f 15, f 16, f 17, f 18, f 19, f 20, f 21, f 22, f 23, f 24, rfl, by omega⟩
theorem mf_17 {h : aH} (hO : OK h) {fs : List aV} (hc : h[69]? = some (.inl (12, fs))) : ∃ x : Int32, fs[17]? = some (.inl x) := by
  obtain ⟨f, rfl, hr⟩ := msh_c (hO.msh hc)
  exact ⟨_, rfl⟩
theorem ms_17 {τ : Nat → Nat × Nat} {fs : List aV} {x : Int32} (h : shO τ 69 12 fs) : shO τ 69 12 (fs.set 17 (.inl x)) := by
  obtain ⟨f, rfl, hr⟩ := msh_c h
  exact ⟨rfl, f 0, f 1, f 2, f 3, f 4, x, f 6, f 7, f 8, f 9, f 10, f 11, f 12, f 13, f 14, f 15, f 16, f 17, f 18, f 19, f 20, f 21, f 22, f 23, f 24, rfl, by omega⟩
theorem mf_18 {h : aH} (hO : OK h) {fs : List aV} (hc : h[69]? = some (.inl (12, fs))) : fs[18]? = some (.inr (.inr (some 82))) := by
  obtain ⟨f, rfl, -⟩ := msh_c (hO.msh hc)
  rfl
theorem mf_19 {h : aH} (hO : OK h) {fs : List aV} (hc : h[69]? = some (.inl (12, fs))) : ∃ x : Int32, fs[19]? = some (.inl x) ∧ 0 ≤ x.toInt ∧ x.toInt ≤ 120 := by
  obtain ⟨f, rfl, hr⟩ := msh_c (hO.msh hc)
  exact ⟨_, rfl, by omega⟩
theorem ms_19 {τ : Nat → Nat × Nat} {fs : List aV} {x : Int32} (h : shO τ 69 12 fs) (hx : 0 ≤ x.toInt ∧ x.toInt ≤ 120) : shO τ 69 12 (fs.set 19 (.inl x)) := by
  obtain ⟨f, rfl, hr⟩ := msh_c h
  exact ⟨rfl, f 0, f 1, f 2, f 3, f 4, f 5, x, f 7, f 8, f 9, f 10, f 11, f 12, f 13, f 14, f 15, f 16, f 17, f 18, f 19, f 20, f 21, f 22, f 23, f 24, rfl, by omega⟩
theorem mf_20 {h : aH} (hO : OK h) {fs : List aV} (hc : h[69]? = some (.inl (12, fs))) : ∃ x : Int32, fs[20]? = some (.inl x) := by
  obtain ⟨f, rfl, hr⟩ := msh_c (hO.msh hc)
  exact ⟨_, rfl⟩
theorem ms_20 {τ : Nat → Nat × Nat} {fs : List aV} {x : Int32} (h : shO τ 69 12 fs) : shO τ 69 12 (fs.set 20 (.inl x)) := by
  obtain ⟨f, rfl, hr⟩ := msh_c h
  exact ⟨rfl, f 0, f 1, f 2, f 3, f 4, f 5, f 6, x, f 8, f 9, f 10, f 11, f 12, f 13, f 14, f 15, f 16, f 17, f 18, f 19, f 20, f 21, f 22, f 23, f 24, rfl, by omega⟩
theorem mf_21 {h : aH} (hO : OK h) {fs : List aV} (hc : h[69]? = some (.inl (12, fs))) : ∃ x : Int32, fs[21]? = some (.inl x) := by
  obtain ⟨f, rfl, hr⟩ := msh_c (hO.msh hc)
  exact ⟨_, rfl⟩
theorem ms_21 {τ : Nat → Nat × Nat} {fs : List aV} {x : Int32} (h : shO τ 69 12 fs) : shO τ 69 12 (fs.set 21 (.inl x)) := by
  obtain ⟨f, rfl, hr⟩ := msh_c h
  exact ⟨rfl, f 0, f 1, f 2, f 3, f 4, f 5, f 6, f 7, x, f 9, f 10, f 11, f 12, f 13, f 14, f 15, f 16, f 17, f 18, f 19, f 20, f 21, f 22, f 23, f 24, rfl, by omega⟩
theorem mf_22 {h : aH} (hO : OK h) {fs : List aV} (hc : h[69]? = some (.inl (12, fs))) : ∃ x : Int32, fs[22]? = some (.inl x) := by
  obtain ⟨f, rfl, hr⟩ := msh_c (hO.msh hc)
  exact ⟨_, rfl⟩
theorem ms_22 {τ : Nat → Nat × Nat} {fs : List aV} {x : Int32} (h : shO τ 69 12 fs) : shO τ 69 12 (fs.set 22 (.inl x)) := by
  obtain ⟨f, rfl, hr⟩ := msh_c h
  exact ⟨rfl, f 0, f 1, f 2, f 3, f 4, f 5, f 6, f 7, f 8, x, f 10, f 11, f 12, f 13, f 14, f 15, f 16, f 17, f 18, f 19, f 20, f 21, f 22, f 23, f 24, rfl, by omega⟩
theorem mf_23 {h : aH} (hO : OK h) {fs : List aV} (hc : h[69]? = some (.inl (12, fs))) : ∃ x : Int32, fs[23]? = some (.inl x) ∧ 0 ≤ x.toInt ∧ x.toInt ≤ 130 := by
  obtain ⟨f, rfl, hr⟩ := msh_c (hO.msh hc)
  exact ⟨_, rfl, by omega⟩
theorem ms_23 {τ : Nat → Nat × Nat} {fs : List aV} {x : Int32} (h : shO τ 69 12 fs) (hx : 0 ≤ x.toInt ∧ x.toInt ≤ 130) : shO τ 69 12 (fs.set 23 (.inl x)) := by
  obtain ⟨f, rfl, hr⟩ := msh_c h
  exact ⟨rfl, f 0, f 1, f 2, f 3, f 4, f 5, f 6, f 7, f 8, f 9, x, f 11, f 12, f 13, f 14, f 15, f 16, f 17, f 18, f 19, f 20, f 21, f 22, f 23, f 24, rfl, by omega⟩
theorem mf_24 {h : aH} (hO : OK h) {fs : List aV} (hc : h[69]? = some (.inl (12, fs))) : fs[24]? = some (.inr (.inr (some 83))) := by
  obtain ⟨f, rfl, -⟩ := msh_c (hO.msh hc)
  rfl
theorem mf_25 {h : aH} (hO : OK h) {fs : List aV} (hc : h[69]? = some (.inl (12, fs))) : fs[25]? = some (.inr (.inr (some 84))) := by
  obtain ⟨f, rfl, -⟩ := msh_c (hO.msh hc)
  rfl
theorem mf_26 {h : aH} (hO : OK h) {fs : List aV} (hc : h[69]? = some (.inl (12, fs))) : fs[26]? = some (.inr (.inr (some 85))) := by
  obtain ⟨f, rfl, -⟩ := msh_c (hO.msh hc)
  rfl
theorem mf_27 {h : aH} (hO : OK h) {fs : List aV} (hc : h[69]? = some (.inl (12, fs))) : fs[27]? = some (.inr (.inr (some 86))) := by
  obtain ⟨f, rfl, -⟩ := msh_c (hO.msh hc)
  rfl
theorem mf_28 {h : aH} (hO : OK h) {fs : List aV} (hc : h[69]? = some (.inl (12, fs))) : fs[28]? = some (.inr (.inr (some 87))) := by
  obtain ⟨f, rfl, -⟩ := msh_c (hO.msh hc)
  rfl
theorem mf_29 {h : aH} (hO : OK h) {fs : List aV} (hc : h[69]? = some (.inl (12, fs))) : fs[29]? = some (.inr (.inr (some 88))) := by
  obtain ⟨f, rfl, -⟩ := msh_c (hO.msh hc)
  rfl
theorem mf_30 {h : aH} (hO : OK h) {fs : List aV} (hc : h[69]? = some (.inl (12, fs))) : fs[30]? = some (.inr (.inr (some 89))) := by
  obtain ⟨f, rfl, -⟩ := msh_c (hO.msh hc)
  rfl
theorem mf_31 {h : aH} (hO : OK h) {fs : List aV} (hc : h[69]? = some (.inl (12, fs))) : fs[31]? = some (.inr (.inr (some 90))) := by
  obtain ⟨f, rfl, -⟩ := msh_c (hO.msh hc)
  rfl
theorem mf_32 {h : aH} (hO : OK h) {fs : List aV} (hc : h[69]? = some (.inl (12, fs))) : fs[32]? = some (.inr (.inr (some 91))) := by
  obtain ⟨f, rfl, -⟩ := msh_c (hO.msh hc)
  rfl
theorem mf_33 {h : aH} (hO : OK h) {fs : List aV} (hc : h[69]? = some (.inl (12, fs))) : fs[33]? = some (.inr (.inr (some 92))) := by
  obtain ⟨f, rfl, -⟩ := msh_c (hO.msh hc)
  rfl
theorem mf_34 {h : aH} (hO : OK h) {fs : List aV} (hc : h[69]? = some (.inl (12, fs))) : ∃ x : Int32, fs[34]? = some (.inl x) ∧ 0 ≤ x.toInt ∧ x.toInt ≤ 10 := by
  obtain ⟨f, rfl, hr⟩ := msh_c (hO.msh hc)
  exact ⟨_, rfl, by omega⟩
theorem ms_34 {τ : Nat → Nat × Nat} {fs : List aV} {x : Int32} (h : shO τ 69 12 fs) (hx : 0 ≤ x.toInt ∧ x.toInt ≤ 10) : shO τ 69 12 (fs.set 34 (.inl x)) := by
  obtain ⟨f, rfl, hr⟩ := msh_c h
  exact ⟨rfl, f 0, f 1, f 2, f 3, f 4, f 5, f 6, f 7, f 8, f 9, f 10, x, f 12, f 13, f 14, f 15, f 16, f 17, f 18, f 19, f 20, f 21, f 22, f 23, f 24, rfl, by omega⟩
theorem mf_35 {h : aH} (hO : OK h) {fs : List aV} (hc : h[69]? = some (.inl (12, fs))) : fs[35]? = some (.inr (.inr (some 93))) := by
  obtain ⟨f, rfl, -⟩ := msh_c (hO.msh hc)
  rfl
theorem mf_36 {h : aH} (hO : OK h) {fs : List aV} (hc : h[69]? = some (.inl (12, fs))) : fs[36]? = some (.inr (.inr (some 94))) := by
  obtain ⟨f, rfl, -⟩ := msh_c (hO.msh hc)
  rfl
theorem mf_37 {h : aH} (hO : OK h) {fs : List aV} (hc : h[69]? = some (.inl (12, fs))) : fs[37]? = some (.inr (.inr (some 95))) := by
  obtain ⟨f, rfl, -⟩ := msh_c (hO.msh hc)
  rfl
theorem mf_38 {h : aH} (hO : OK h) {fs : List aV} (hc : h[69]? = some (.inl (12, fs))) : ∃ x : Int32, fs[38]? = some (.inl x) ∧ 0 ≤ x.toInt ∧ x.toInt ≤ 150 := by
  obtain ⟨f, rfl, hr⟩ := msh_c (hO.msh hc)
  exact ⟨_, rfl, by omega⟩
theorem ms_38 {τ : Nat → Nat × Nat} {fs : List aV} {x : Int32} (h : shO τ 69 12 fs) (hx : 0 ≤ x.toInt ∧ x.toInt ≤ 150) : shO τ 69 12 (fs.set 38 (.inl x)) := by
  obtain ⟨f, rfl, hr⟩ := msh_c h
  exact ⟨rfl, f 0, f 1, f 2, f 3, f 4, f 5, f 6, f 7, f 8, f 9, f 10, f 11, x, f 13, f 14, f 15, f 16, f 17, f 18, f 19, f 20, f 21, f 22, f 23, f 24, rfl, by omega⟩
theorem mf_39 {h : aH} (hO : OK h) {fs : List aV} (hc : h[69]? = some (.inl (12, fs))) : fs[39]? = some (.inr (.inr (some 96))) := by
  obtain ⟨f, rfl, -⟩ := msh_c (hO.msh hc)
  rfl
theorem mf_40 {h : aH} (hO : OK h) {fs : List aV} (hc : h[69]? = some (.inl (12, fs))) : fs[40]? = some (.inr (.inr (some 97))) := by
  obtain ⟨f, rfl, -⟩ := msh_c (hO.msh hc)
  rfl
theorem mf_41 {h : aH} (hO : OK h) {fs : List aV} (hc : h[69]? = some (.inl (12, fs))) : fs[41]? = some (.inr (.inr (some 98))) := by
  obtain ⟨f, rfl, -⟩ := msh_c (hO.msh hc)
  rfl
theorem mf_42 {h : aH} (hO : OK h) {fs : List aV} (hc : h[69]? = some (.inl (12, fs))) : fs[42]? = some (.inr (.inr (some 99))) := by
  obtain ⟨f, rfl, -⟩ := msh_c (hO.msh hc)
  rfl
theorem mf_43 {h : aH} (hO : OK h) {fs : List aV} (hc : h[69]? = some (.inl (12, fs))) : fs[43]? = some (.inr (.inr (some 100))) := by
  obtain ⟨f, rfl, -⟩ := msh_c (hO.msh hc)
  rfl
theorem mf_44 {h : aH} (hO : OK h) {fs : List aV} (hc : h[69]? = some (.inl (12, fs))) : fs[44]? = some (.inr (.inr (some 101))) := by
  obtain ⟨f, rfl, -⟩ := msh_c (hO.msh hc)
  rfl
theorem mf_45 {h : aH} (hO : OK h) {fs : List aV} (hc : h[69]? = some (.inl (12, fs))) : fs[45]? = some (.inr (.inr (some 102))) := by
  obtain ⟨f, rfl, -⟩ := msh_c (hO.msh hc)
  rfl
theorem mf_46 {h : aH} (hO : OK h) {fs : List aV} (hc : h[69]? = some (.inl (12, fs))) : fs[46]? = some (.inr (.inr (some 103))) := by
  obtain ⟨f, rfl, -⟩ := msh_c (hO.msh hc)
  rfl
theorem mf_47 {h : aH} (hO : OK h) {fs : List aV} (hc : h[69]? = some (.inl (12, fs))) : ∃ x : Int32, fs[47]? = some (.inl x) := by
  obtain ⟨f, rfl, hr⟩ := msh_c (hO.msh hc)
  exact ⟨_, rfl⟩
theorem ms_47 {τ : Nat → Nat × Nat} {fs : List aV} {x : Int32} (h : shO τ 69 12 fs) : shO τ 69 12 (fs.set 47 (.inl x)) := by
  obtain ⟨f, rfl, hr⟩ := msh_c h
  exact ⟨rfl, f 0, f 1, f 2, f 3, f 4, f 5, f 6, f 7, f 8, f 9, f 10, f 11, f 12, x, f 14, f 15, f 16, f 17, f 18, f 19, f 20, f 21, f 22, f 23, f 24, rfl, by omega⟩
theorem mf_48 {h : aH} (hO : OK h) {fs : List aV} (hc : h[69]? = some (.inl (12, fs))) : ∃ x : Int32, fs[48]? = some (.inl x) := by
  obtain ⟨f, rfl, hr⟩ := msh_c (hO.msh hc)
  exact ⟨_, rfl⟩
theorem ms_48 {τ : Nat → Nat × Nat} {fs : List aV} {x : Int32} (h : shO τ 69 12 fs) : shO τ 69 12 (fs.set 48 (.inl x)) := by
  obtain ⟨f, rfl, hr⟩ := msh_c h
  exact ⟨rfl, f 0, f 1, f 2, f 3, f 4, f 5, f 6, f 7, f 8, f 9, f 10, f 11, f 12, f 13, x, f 15, f 16, f 17, f 18, f 19, f 20, f 21, f 22, f 23, f 24, rfl, by omega⟩
theorem mf_49 {h : aH} (hO : OK h) {fs : List aV} (hc : h[69]? = some (.inl (12, fs))) : ∃ x : Int32, fs[49]? = some (.inl x) := by
  obtain ⟨f, rfl, hr⟩ := msh_c (hO.msh hc)
  exact ⟨_, rfl⟩
theorem ms_49 {τ : Nat → Nat × Nat} {fs : List aV} {x : Int32} (h : shO τ 69 12 fs) : shO τ 69 12 (fs.set 49 (.inl x)) := by
  obtain ⟨f, rfl, hr⟩ := msh_c h
  exact ⟨rfl, f 0, f 1, f 2, f 3, f 4, f 5, f 6, f 7, f 8, f 9, f 10, f 11, f 12, f 13, f 14, x, f 16, f 17, f 18, f 19, f 20, f 21, f 22, f 23, f 24, rfl, by omega⟩
theorem mf_50 {h : aH} (hO : OK h) {fs : List aV} (hc : h[69]? = some (.inl (12, fs))) : ∃ x : Int32, fs[50]? = some (.inl x) := by
  obtain ⟨f, rfl, hr⟩ := msh_c (hO.msh hc)
  exact ⟨_, rfl⟩
theorem ms_50 {τ : Nat → Nat × Nat} {fs : List aV} {x : Int32} (h : shO τ 69 12 fs) : shO τ 69 12 (fs.set 50 (.inl x)) := by
  obtain ⟨f, rfl, hr⟩ := msh_c h
  exact ⟨rfl, f 0, f 1, f 2, f 3, f 4, f 5, f 6, f 7, f 8, f 9, f 10, f 11, f 12, f 13, f 14, f 15, x, f 17, f 18, f 19, f 20, f 21, f 22, f 23, f 24, rfl, by omega⟩
theorem mf_51 {h : aH} (hO : OK h) {fs : List aV} (hc : h[69]? = some (.inl (12, fs))) : ∃ x : Int32, fs[51]? = some (.inl x) := by
  obtain ⟨f, rfl, hr⟩ := msh_c (hO.msh hc)
  exact ⟨_, rfl⟩
theorem ms_51 {τ : Nat → Nat × Nat} {fs : List aV} {x : Int32} (h : shO τ 69 12 fs) : shO τ 69 12 (fs.set 51 (.inl x)) := by
  obtain ⟨f, rfl, hr⟩ := msh_c h
  exact ⟨rfl, f 0, f 1, f 2, f 3, f 4, f 5, f 6, f 7, f 8, f 9, f 10, f 11, f 12, f 13, f 14, f 15, f 16, x, f 18, f 19, f 20, f 21, f 22, f 23, f 24, rfl, by omega⟩
theorem mf_52 {h : aH} (hO : OK h) {fs : List aV} (hc : h[69]? = some (.inl (12, fs))) : ∃ x : Int32, fs[52]? = some (.inl x) := by
  obtain ⟨f, rfl, hr⟩ := msh_c (hO.msh hc)
  exact ⟨_, rfl⟩
theorem ms_52 {τ : Nat → Nat × Nat} {fs : List aV} {x : Int32} (h : shO τ 69 12 fs) : shO τ 69 12 (fs.set 52 (.inl x)) := by
  obtain ⟨f, rfl, hr⟩ := msh_c h
  exact ⟨rfl, f 0, f 1, f 2, f 3, f 4, f 5, f 6, f 7, f 8, f 9, f 10, f 11, f 12, f 13, f 14, f 15, f 16, f 17, x, f 19, f 20, f 21, f 22, f 23, f 24, rfl, by omega⟩
theorem mf_53 {h : aH} (hO : OK h) {fs : List aV} (hc : h[69]? = some (.inl (12, fs))) : ∃ x : Int32, fs[53]? = some (.inl x) := by
  obtain ⟨f, rfl, hr⟩ := msh_c (hO.msh hc)
  exact ⟨_, rfl⟩
theorem ms_53 {τ : Nat → Nat × Nat} {fs : List aV} {x : Int32} (h : shO τ 69 12 fs) : shO τ 69 12 (fs.set 53 (.inl x)) := by
  obtain ⟨f, rfl, hr⟩ := msh_c h
  exact ⟨rfl, f 0, f 1, f 2, f 3, f 4, f 5, f 6, f 7, f 8, f 9, f 10, f 11, f 12, f 13, f 14, f 15, f 16, f 17, f 18, x, f 20, f 21, f 22, f 23, f 24, rfl, by omega⟩
theorem mf_54 {h : aH} (hO : OK h) {fs : List aV} (hc : h[69]? = some (.inl (12, fs))) : fs[54]? = some (.inr (.inr (some 104))) := by
  obtain ⟨f, rfl, -⟩ := msh_c (hO.msh hc)
  rfl
theorem mf_55 {h : aH} (hO : OK h) {fs : List aV} (hc : h[69]? = some (.inl (12, fs))) : fs[55]? = some (.inr (.inr (some 105))) := by
  obtain ⟨f, rfl, -⟩ := msh_c (hO.msh hc)
  rfl
theorem mf_56 {h : aH} (hO : OK h) {fs : List aV} (hc : h[69]? = some (.inl (12, fs))) : fs[56]? = some (.inr (.inr (some 106))) := by
  obtain ⟨f, rfl, -⟩ := msh_c (hO.msh hc)
  rfl
theorem mf_57 {h : aH} (hO : OK h) {fs : List aV} (hc : h[69]? = some (.inl (12, fs))) : ∃ x : Int32, fs[57]? = some (.inl x) ∧ 0 ≤ x.toInt ∧ x.toInt ≤ 5 := by
  obtain ⟨f, rfl, hr⟩ := msh_c (hO.msh hc)
  exact ⟨_, rfl, by omega⟩
theorem ms_57 {τ : Nat → Nat × Nat} {fs : List aV} {x : Int32} (h : shO τ 69 12 fs) (hx : 0 ≤ x.toInt ∧ x.toInt ≤ 5) : shO τ 69 12 (fs.set 57 (.inl x)) := by
  obtain ⟨f, rfl, hr⟩ := msh_c h
  exact ⟨rfl, f 0, f 1, f 2, f 3, f 4, f 5, f 6, f 7, f 8, f 9, f 10, f 11, f 12, f 13, f 14, f 15, f 16, f 17, f 18, f 19, x, f 21, f 22, f 23, f 24, rfl, by omega⟩
theorem mf_58 {h : aH} (hO : OK h) {fs : List aV} (hc : h[69]? = some (.inl (12, fs))) : fs[58]? = some (.inr (.inr (some 107))) := by
  obtain ⟨f, rfl, -⟩ := msh_c (hO.msh hc)
  rfl
theorem mf_59 {h : aH} (hO : OK h) {fs : List aV} (hc : h[69]? = some (.inl (12, fs))) : fs[59]? = some (.inr (.inr (some 108))) := by
  obtain ⟨f, rfl, -⟩ := msh_c (hO.msh hc)
  rfl
theorem mf_60 {h : aH} (hO : OK h) {fs : List aV} (hc : h[69]? = some (.inl (12, fs))) : ∃ x : Int32, fs[60]? = some (.inl x) := by
  obtain ⟨f, rfl, hr⟩ := msh_c (hO.msh hc)
  exact ⟨_, rfl⟩
theorem ms_60 {τ : Nat → Nat × Nat} {fs : List aV} {x : Int32} (h : shO τ 69 12 fs) : shO τ 69 12 (fs.set 60 (.inl x)) := by
  obtain ⟨f, rfl, hr⟩ := msh_c h
  exact ⟨rfl, f 0, f 1, f 2, f 3, f 4, f 5, f 6, f 7, f 8, f 9, f 10, f 11, f 12, f 13, f 14, f 15, f 16, f 17, f 18, f 19, f 20, x, f 22, f 23, f 24, rfl, by omega⟩
theorem mf_61 {h : aH} (hO : OK h) {fs : List aV} (hc : h[69]? = some (.inl (12, fs))) : ∃ x : Int32, fs[61]? = some (.inl x) := by
  obtain ⟨f, rfl, hr⟩ := msh_c (hO.msh hc)
  exact ⟨_, rfl⟩
theorem ms_61 {τ : Nat → Nat × Nat} {fs : List aV} {x : Int32} (h : shO τ 69 12 fs) : shO τ 69 12 (fs.set 61 (.inl x)) := by
  obtain ⟨f, rfl, hr⟩ := msh_c h
  exact ⟨rfl, f 0, f 1, f 2, f 3, f 4, f 5, f 6, f 7, f 8, f 9, f 10, f 11, f 12, f 13, f 14, f 15, f 16, f 17, f 18, f 19, f 20, f 21, x, f 23, f 24, rfl, by omega⟩
theorem mf_62 {h : aH} (hO : OK h) {fs : List aV} (hc : h[69]? = some (.inl (12, fs))) : ∃ x : Int32, fs[62]? = some (.inl x) := by
  obtain ⟨f, rfl, hr⟩ := msh_c (hO.msh hc)
  exact ⟨_, rfl⟩
theorem ms_62 {τ : Nat → Nat × Nat} {fs : List aV} {x : Int32} (h : shO τ 69 12 fs) : shO τ 69 12 (fs.set 62 (.inl x)) := by
  obtain ⟨f, rfl, hr⟩ := msh_c h
  exact ⟨rfl, f 0, f 1, f 2, f 3, f 4, f 5, f 6, f 7, f 8, f 9, f 10, f 11, f 12, f 13, f 14, f 15, f 16, f 17, f 18, f 19, f 20, f 21, f 22, x, f 24, rfl, by omega⟩
theorem mf_63 {h : aH} (hO : OK h) {fs : List aV} (hc : h[69]? = some (.inl (12, fs))) : ∃ x : Int32, fs[63]? = some (.inl x) ∧ 0 ≤ x.toInt ∧ x.toInt ≤ 1000000 := by
  obtain ⟨f, rfl, hr⟩ := msh_c (hO.msh hc)
  exact ⟨_, rfl, by omega⟩
theorem ms_63 {τ : Nat → Nat × Nat} {fs : List aV} {x : Int32} (h : shO τ 69 12 fs) (hx : 0 ≤ x.toInt ∧ x.toInt ≤ 1000000) : shO τ 69 12 (fs.set 63 (.inl x)) := by
  obtain ⟨f, rfl, hr⟩ := msh_c h
  exact ⟨rfl, f 0, f 1, f 2, f 3, f 4, f 5, f 6, f 7, f 8, f 9, f 10, f 11, f 12, f 13, f 14, f 15, f 16, f 17, f 18, f 19, f 20, f 21, f 22, f 23, x, rfl, by omega⟩
theorem mf_64 {h : aH} (hO : OK h) {fs : List aV} (hc : h[69]? = some (.inl (12, fs))) : fs[64]? = some (.inr (.inr (some 109))) := by
  obtain ⟨f, rfl, -⟩ := msh_c (hO.msh hc)
  rfl
theorem mf_65 {h : aH} (hO : OK h) {fs : List aV} (hc : h[69]? = some (.inl (12, fs))) : fs[65]? = some (.inr (.inr (some 110))) := by
  obtain ⟨f, rfl, -⟩ := msh_c (hO.msh hc)
  rfl
theorem mf_66 {h : aH} (hO : OK h) {fs : List aV} (hc : h[69]? = some (.inl (12, fs))) : fs[66]? = some (.inr (.inr (some 111))) := by
  obtain ⟨f, rfl, -⟩ := msh_c (hO.msh hc)
  rfl
theorem mf_67 {h : aH} (hO : OK h) {fs : List aV} (hc : h[69]? = some (.inl (12, fs))) : fs[67]? = some (.inr (.inr (some 112))) := by
  obtain ⟨f, rfl, -⟩ := msh_c (hO.msh hc)
  rfl
theorem mf_68 {h : aH} (hO : OK h) {fs : List aV} (hc : h[69]? = some (.inl (12, fs))) : fs[68]? = some (.inr (.inr (some 113))) := by
  obtain ⟨f, rfl, -⟩ := msh_c (hO.msh hc)
  rfl
/-- a field of the model as a number -/
def fI (h : aH) (k : Nat) : Int := match h[69]? with
  | some (Sum.inl (12, fs)) => match fs[k]? with
    | some (Sum.inl x) => x.toInt
    | _ => 0
  | _ => 0
theorem fI_of {h : aH} {fs : List aV} {k : Nat} {x : Int32} (hc : h[69]? = some (.inl (12, fs))) (hf : fs[k]? = some (.inl x)) : fI h k = x.toInt := by
  unfold fI
  rw [hc]
  show (match fs[k]? with
    | some (Sum.inl x) => x.toInt
    | _ => 0) = x.toInt
  rw [hf]
section MPU
variable {d : Nat} {T : aTab} {Q : Option aV → aH → Prop} {pc : Nat} {al : aL} {st : List aV} {h : aH} {kc ks n i : Nat}
theorem ur_putM {W : List Nat} {k0 : Nat} {fs : List aV} {v : aV} {ty : FieldType} (ho : aAt T pc = some (.inl (oPut n 12 k0 ty))) (hO : OK h) (hc : h[69]? = some (.inl (12, fs))) (hl : k0 < 69) (hf : aFit ty v = true) (hs : shO (tg h) 69 12 (fs.set k0 v)) (hw : scr 12 k0 = true ∨ 7900 + k0 ∈ W) (k : ∀ h', OK h' → un W h h' → (∀ b, b ≠ 69 → h'[b]? = h[b]?) → h'[69]? = some (.inl (12, fs.set k0 v)) → uRun T (uCall Mt d) Q n (al, st, h', kc, ks)) : uRun T (uCall Mt d) Q pc (al, v :: .inr (.inr (some 69)) :: st, h, kc, ks) := by
  have hl2 := msh_len (hO.msh hc)
  have ht : tgC (.inl (12, fs.set k0 v)) = tgC (.inl (12, fs)) := by simp [tgC]
  exact ur_put ho hc (by omega) hf (k _ (hO.set hc ht hs) (un.put hc (by omega) rfl (by rw [wid_f (by decide)]; exact hw)) set_ne (hs_eq hc))
end MPU
end MOD
