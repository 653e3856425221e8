/-! THE FRESH HEAP is as it must be; printed by program -/
section HF
theorem el_rep {a n : Nat} {v : Int32} (h : (rng a).1 ≤ v.toInt ∧ v.toInt ≤ (rng a).2) : elR a (List.replicate n v) := fun i y hy => by
  rw [List.getElem?_replicate] at hy
  split at hy
  · cases hy; exact h
  · cases hy
theorem no_rep {n i z : Nat} {P : Prop} (h : (List.replicate n (none : Option Nat))[i]? = some (some z)) : P := by
  rw [List.getElem?_replicate] at h
  split at h <;> cases h
theorem tg_F (k : Nat) : tg hF k = T0.getD k (999, 0) := by
  rw [← T0_F, List.getD_eq_getElem?_getD, List.getElem?_map]
  unfold tg
  cases hF[k]? <;> rfl
set_option maxRecDepth 20000 in
theorem sh_F (a : Nat) (c : aC) (hc : hF[a]? = some c) : sh (tg hF) a c := by
  match a, hc with
  | 0, hc => cases hc; exact ⟨rfl, rfl, trivial⟩
  | 1, hc => cases hc; exact ⟨rfl, _, _, rfl, by first | trivial | decide⟩
  | 2, hc => cases hc; exact ⟨_, rfl, el_rep (by decide)⟩
  | 3, hc => cases hc; exact ⟨_, rfl, el_rep (by decide)⟩
  | 4, hc => cases hc; exact ⟨_, rfl, fun i z h => no_rep h⟩
  | 5, hc => cases hc; exact ⟨rfl, _, _, _, _, rfl, by first | trivial | decide⟩
  | 6, hc => cases hc; exact ⟨_, rfl, el_rep (by decide)⟩
  | 7, hc => cases hc; exact ⟨_, rfl, el_rep (by decide)⟩
  | 8, hc => cases hc; exact ⟨rfl, _, rfl, by first | trivial | decide⟩
  | 9, hc => cases hc; exact ⟨by decide, _, rfl, tg_F 10, by decide, by decide⟩
  | 10, hc => cases hc; exact ⟨_, rfl, el_rep (by decide)⟩
  | 11, hc => cases hc; exact ⟨by decide, _, rfl, tg_F 12, by decide, by decide⟩
  | 12, hc => cases hc; exact ⟨_, rfl, el_rep (by decide)⟩
  | 13, hc => cases hc; exact ⟨_, rfl, el_rep (by decide)⟩
  | 14, hc => cases hc; exact ⟨_, rfl, el_rep (by decide)⟩
  | 15, hc => cases hc; exact ⟨rfl, _, _, _, _, rfl, by first | trivial | decide⟩
  | 16, hc => cases hc; exact ⟨_, rfl, fun i z h => no_rep h⟩
  | 17, hc => cases hc; exact ⟨_, rfl, el_rep (by decide)⟩
  | 18, hc => cases hc; exact ⟨_, rfl, el_rep (by decide)⟩
  | 19, hc => cases hc; exact rfl
  | 20, hc => cases hc; exact ⟨_, rfl, el_rep (by decide)⟩
  | 21, hc => cases hc; exact ⟨_, rfl, el_rep (by decide)⟩
  | 22, hc => cases hc; exact ⟨_, rfl, el_rep (by decide)⟩
  | 23, hc => cases hc; exact ⟨by decide, _, rfl, tg_F 24, by decide, by decide⟩
  | 24, hc => cases hc; exact ⟨_, rfl, el_rep (by decide)⟩
  | 25, hc => cases hc; exact ⟨by decide, _, rfl, tg_F 26, by decide, by decide⟩
  | 26, hc => cases hc; exact ⟨_, rfl, el_rep (by decide)⟩
  | 27, hc => cases hc; exact ⟨by decide, _, rfl, tg_F 28, by decide, by decide⟩
  | 28, hc => cases hc; exact ⟨_, rfl, el_rep (by decide)⟩
  | 29, hc => cases hc; exact ⟨by decide, _, rfl, tg_F 30, by decide, by decide⟩
  | 30, hc => cases hc; exact ⟨_, rfl, el_rep (by decide)⟩
  | 31, hc => cases hc; exact ⟨by decide, _, rfl, tg_F 32, by decide, by decide⟩
  | 32, hc => cases hc; exact ⟨_, rfl, el_rep (by decide)⟩
  | 33, hc => cases hc; exact ⟨by decide, _, rfl, tg_F 34, by decide, by decide⟩
  | 34, hc => cases hc; exact ⟨_, rfl, el_rep (by decide)⟩
  | 35, hc => cases hc; exact ⟨by decide, _, rfl, tg_F 36, by decide, by decide⟩
  | 36, hc => cases hc; exact ⟨_, rfl, el_rep (by decide)⟩
  | 37, hc => cases hc; exact ⟨by decide, _, rfl, tg_F 38, by decide, by decide⟩
  | 38, hc => cases hc; exact ⟨_, rfl, el_rep (by decide)⟩
  | 39, hc => cases hc; exact ⟨by decide, _, rfl, tg_F 40, by decide, by decide⟩
  | 40, hc => cases hc; exact ⟨_, rfl, el_rep (by decide)⟩
  | 41, hc => cases hc; exact ⟨rfl, _, _, rfl, by first | trivial | decide⟩
  | 42, hc => cases hc; exact ⟨_, rfl, el_rep (by decide)⟩
  | 43, hc => cases hc; exact ⟨_, rfl, el_rep (by decide)⟩
  | 44, hc => cases hc; exact ⟨_, rfl, el_rep (by decide)⟩
  | 45, hc => cases hc; exact ⟨_, rfl⟩
  | 46, hc => cases hc; exact ⟨_, rfl, el_rep (by decide)⟩
  | 47, hc => cases hc; exact ⟨_, rfl, el_rep (by decide)⟩
  | 48, hc => cases hc; exact ⟨_, rfl, el_rep (by decide)⟩
  | 49, hc => cases hc; exact ⟨_, rfl, el_rep (by decide)⟩
  | 50, hc => cases hc; exact ⟨_, rfl, el_rep (by decide)⟩
  | 51, hc => cases hc; exact ⟨_, rfl, el_rep (by decide)⟩
  | 52, hc => cases hc; exact ⟨rfl, _, rfl, by first | trivial | decide⟩
  | 53, hc => cases hc; exact ⟨_, rfl, el_rep (by decide)⟩
  | 54, hc => cases hc; exact ⟨_, rfl, el_rep (by decide)⟩
  | 55, hc => cases hc; exact ⟨rfl, _, rfl, by first | trivial | decide⟩
  | 56, hc => cases hc; exact ⟨_, rfl, el_rep (by decide)⟩
  | 57, hc => cases hc; exact ⟨rfl, rfl, trivial⟩
  | 58, hc => cases hc; exact ⟨_, rfl, el_rep (by decide)⟩
  | 59, hc => cases hc; exact ⟨_, rfl, el_rep (by decide)⟩
  | 60, hc => cases hc; exact ⟨_, rfl, el_rep (by decide)⟩
  | 61, hc => cases hc; exact ⟨_, rfl, el_rep (by decide)⟩
  | 62, hc => cases hc; exact rfl
  | 63, hc => cases hc; exact ⟨_, rfl⟩
  | 64, hc => cases hc; exact ⟨_, rfl⟩
  | 65, hc => cases hc; exact ⟨_, rfl⟩
  | 66, hc => cases hc; exact ⟨_, rfl⟩
  | 67, hc => cases hc; exact ⟨_, rfl⟩
  | 68, hc => cases hc; exact ⟨_, rfl⟩
  | 69, hc => cases hc; exact ⟨rfl, _, _, _, _, _, _, _, _, _, _, _, _, _, _, _, _, _, _, _, _, _, _, _, _, _, rfl, by first | trivial | decide⟩
  | 70, hc => cases hc; exact ⟨_, rfl, el_rep (by decide)⟩
  | 71, hc => cases hc; exact ⟨_, rfl, el_rep (by decide)⟩
  | 72, hc => cases hc; exact ⟨_, rfl, el_rep (by decide)⟩
  | 73, hc => cases hc; exact ⟨_, rfl, el_rep (by decide)⟩
  | 74, hc => cases hc; exact ⟨_, rfl, el_rep (by decide)⟩
  | 75, hc => cases hc; exact ⟨_, rfl, el_rep (by decide)⟩
  | 76, hc => cases hc; exact ⟨_, rfl, el_rep (by decide)⟩
  | 77, hc => cases hc; exact ⟨_, rfl, el_rep (by decide)⟩
  | 78, hc => cases hc; exact ⟨_, rfl, el_rep (by decide)⟩
  | 79, hc => cases hc; exact ⟨_, rfl, el_rep (by decide)⟩
  | 80, hc => cases hc; exact ⟨_, rfl, el_rep (by decide)⟩
  | 81, hc => cases hc; exact ⟨_, rfl, el_rep (by decide)⟩
  | 82, hc => cases hc; exact ⟨_, rfl, el_rep (by decide)⟩
  | 83, hc => cases hc; exact ⟨_, rfl, el_rep (by decide)⟩
  | 84, hc => cases hc; exact ⟨_, rfl, el_rep (by decide)⟩
  | 85, hc => cases hc; exact ⟨_, rfl, el_rep (by decide)⟩
  | 86, hc => cases hc; exact ⟨_, rfl, el_rep (by decide)⟩
  | 87, hc => cases hc; exact ⟨_, rfl, el_rep (by decide)⟩
  | 88, hc => cases hc; exact ⟨_, rfl, el_rep (by decide)⟩
  | 89, hc => cases hc; exact ⟨_, rfl, el_rep (by decide)⟩
  | 90, hc => cases hc; exact ⟨_, rfl, el_rep (by decide)⟩
  | 91, hc => cases hc; exact ⟨_, rfl, el_rep (by decide)⟩
  | 92, hc => cases hc; exact ⟨_, rfl, el_rep (by decide)⟩
  | 93, hc => cases hc; exact ⟨_, rfl, el_rep (by decide)⟩
  | 94, hc => cases hc; exact ⟨_, rfl, el_rep (by decide)⟩
  | 95, hc => cases hc; exact ⟨_, rfl, el_rep (by decide)⟩
  | 96, hc => cases hc; exact ⟨_, rfl, el_rep (by decide)⟩
  | 97, hc => cases hc; exact ⟨_, rfl, el_rep (by decide)⟩
  | 98, hc => cases hc; exact ⟨_, rfl, el_rep (by decide)⟩
  | 99, hc => cases hc; exact ⟨_, rfl, el_rep (by decide)⟩
  | 100, hc => cases hc; exact ⟨_, rfl, el_rep (by decide)⟩
  | 101, hc => cases hc; exact ⟨_, rfl, el_rep (by decide)⟩
  | 102, hc => cases hc; exact ⟨_, rfl, el_rep (by decide)⟩
  | 103, hc => cases hc; exact ⟨_, rfl, el_rep (by decide)⟩
  | 104, hc => cases hc; exact ⟨_, rfl, el_rep (by decide)⟩
  | 105, hc => cases hc; exact ⟨_, rfl, el_rep (by decide)⟩
  | 106, hc => cases hc; exact ⟨_, rfl, el_rep (by decide)⟩
  | 107, hc => cases hc; exact ⟨_, rfl, el_rep (by decide)⟩
  | 108, hc => cases hc; exact ⟨_, rfl, el_rep (by decide)⟩
  | 109, hc => cases hc; exact ⟨_, rfl, el_rep (by decide)⟩
  | 110, hc => cases hc; exact ⟨_, rfl, el_rep (by decide)⟩
  | 111, hc => cases hc; exact ⟨_, rfl, el_rep (by decide)⟩
  | 112, hc => cases hc; exact ⟨_, rfl⟩
  | 113, hc => cases hc; exact ⟨_, rfl⟩
  | n + 114, hc => exact absurd hc (by rw [List.getElem?_eq_none (show hF.length ≤ n + 114 from Nat.le_trans (Nat.le_of_ble_eq_true rfl) (Nat.le_add_left 114 n))]; exact fun h => nomatch h)
theorem OK_F : OK hF := ⟨sh_F, fun k _ => tg_F k⟩
theorem SX_F : SX hF := by
  have m : ∃ fs, hF[69]? = some (.inl (12, fs)) ∧ fs[1]? = some (.inl 0) ∧ fs[4]? = some (.inl 0) ∧ fs[38]? = some (.inl 0) := ⟨_, rfl, rfl, rfl, rfl⟩
  obtain ⟨fs, h0, h1, h4, h8⟩ := m
  have f1 : fI hF 1 = 0 := (fI_of h0 h1).trans (by decide)
  have f4 : fI hF 4 = 0 := (fI_of h0 h4).trans (by decide)
  have f8 : fI hF 38 = 0 := (fI_of h0 h8).trans (by decide)
  refine ⟨fun i x _ hi => ?_, fun i x _ hi => ?_, fun i x _ hi => ?_, fun i k m _ _ hi => ?_, fun q _ l hl => ?_⟩
  · rw [f1] at hi; omega
  · rw [f4] at hi; omega
  · rw [f4] at hi; omega
  · rw [f8] at hi; omega
  · have e : iN ((arI hF 85).getD q 0) = 0 := by
      rw [show arI hF 85 = List.replicate 12 0 from rfl, List.getD_eq_getElem?_getD, List.getElem?_replicate]
      split <;> rfl
    rw [e] at hl
    omega
theorem GH_F : GH (rs1 hF) (rs2 hF) hF 0 := ⟨OK_F, SX_F, by decide +kernel, by decide +kernel, Int.le_refl _, Int.le_refl _⟩
theorem rs1_F : rs1 hF = 114 := by decide +kernel
end HF
