/-! more operations: wide constants, new long[n][k] -/
section OPX
variable {own : String} {cc : ByteArray} {nL : Nat} {ini : Bool} {pc : Nat}
theorem s_ldcw {index : Nat} {v : Int32} (hw : Cond.constant own index v ∈ wG) (hd : decode cc pc = .ok (.ldc_w index, 3)) : SndF own cc nL ini pc (oPush (pc + 3) (.inl v)) := by
  intro p l e R s m args below meth c D tys A H0 w0 Q hx f pc' f' hg k
  cases hg
  intro H locs cells slots ls st ws hP hD hS hX hH hL hs hc hk
  refine lv_ldcw hx.1 hx.2.1 hx.2.2.2.1 (hx.2.2.2.2.1 _ hw) hd ?_
  exact k H locs cells slots ls _ ws hP hD hS hX hH hL ⟨_, _, rfl, rfl, hs⟩ hc hk
theorem s_ldc2 {index : Nat} {v : Int64} (hw : Cond.constantLong own index v ∈ wG) (hd : decode cc pc = .ok (.ldc2_w index, 3)) : SndF own cc nL ini pc (oPush (pc + 3) (.inr (.inl v))) := by
  intro p l e R s m args below meth c D tys A H0 w0 Q hx f pc' f' hg k
  cases hg
  intro H locs cells slots ls st ws hP hD hS hX hH hL hs hc hk
  refine lv_ldc2 hx.1 hx.2.1 hx.2.2.2.1 (hx.2.2.2.2.1 _ hw) hd ?_
  exact k H locs cells slots ls _ ws hP hD hS hX hH hL ⟨_, _, rfl, rfl, hs⟩ hc hk
def oMul (n : Nat) : aF → Option (Nat × aF) := fun f => match f.2.1 with
  | .inl k :: .inl i :: r => if ¬ i < 0 ∧ ¬ k < 0 ∧ i.toNatClampNeg ≤ 1000 ∧ k.toNatClampNeg ≤ 1000 ∧ 1 + i.toNatClampNeg ≤ f.2.2.2.1 ∧ i.toNatClampNeg + i.toNatClampNeg * k.toNatClampNeg ≤ f.2.2.2.2 then
      some (n, f.1, .inr (.inr (some f.2.2.1.length)) :: r, (f.2.2.1 ++ [.inr (8, .inr (.inr ((List.range i.toNatClampNeg).map (fun j => some (f.2.2.1.length + 1 + j)))))]) ++ List.replicate i.toNatClampNeg (.inr (4, .inr (.inl (List.replicate k.toNatClampNeg 0)))), f.2.2.2.1 - (1 + i.toNatClampNeg), f.2.2.2.2 - (i.toNatClampNeg + i.toNatClampNeg * k.toNatClampNeg)) else none
  | _ => none
theorem rX.app {ws vs : va_W} : rX ws (ws ++ vs) := fun j b f hj => ⟨f, by rw [List.getElem?_append_left (List.getElem?_eq_some_iff.mp hj).1]; exact hj⟩
theorem s_mul {index : Nat} (hw : Cond.classLink own index "[[J" ∈ wG) (hw2 : Cond.arrayClass .long ∈ wG) (hd : decode cc pc = .ok (.multianewarray index 2, 4)) : SndF own cc nL ini pc (oMul (pc + 4)) := by
  intro p l e R s m args below meth c D tys A H0 w0 Q hx f pc' f' hg kk
  intro H locs cells slots ls st ws hP hD hS hX hH hL hs hc hk
  unfold oMul at hg
  split at hg
  · rename_i k i r hi
    split at hg
    · rename_i hb
      cases hg
      rw [hi] at hs
      obtain ⟨u, us, rfl, hv, hs⟩ := hs
      obtain ⟨u2, us, rfl, hv2, hs⟩ := hs
      cases hv
      cases hv2
      obtain ⟨b1, b2, b3, b4, b5, b6⟩ := hb
      obtain ⟨cy, hcy⟩ := tyIs hx.2.2.2.2.2.2.1 (k := 4) rfl
      obtain ⟨cB, hcB⟩ := tyIs hx.2.2.2.2.2.2.1 (k := 8) rfl
      have e4 : s.vm.findClass _ = some cy := (hx.2.2.2.2.2.1.2 _ _ hcy).2
      have hPl : va_P D vwCl (ws ++ va_pl [] (fun _ => (.inr (0, []) : va_E))) H := by simpa [va_pl] using hP
      have hDl : va_D A (ws ++ va_pl [] (fun _ => (.inr (0, []) : va_E))) := by simpa [va_pl] using hD
      generalize hN : i.toNatClampNeg = N at *
      generalize hK0 : k.toNatClampNeg = K at *
      refine va_mna (X := ws) (L := []) (f := fun _ => (.inr (0, []) : va_E)) (ty := .long) (cy := cy) (z := (K, .inr (.inl (fun _ => 0)))) hx.1 hx.2.1 hx.2.2.2.1 (hx.2.2.2.2.1 _ hw) hx.2.2.2.2.2.2.2.2.2.1.1.2.2.2.2 (hx.2.2.2.2.1 _ hw2) e4 hx.2.2.2.2.2.1 hPl hDl hS hx.2.2.2.2.2.2.2.1 b1 b2 hN hK0 (by omega) (by simp only [componentBytes]; omega) (by omega) rfl rfl (by omega) (by omega) (fun c9 => by
        show ({ cls := c9, slots := Array.replicate K (defaultValue .long), vm := .none } : Cell) = _
        rw [arrV_new]
        rfl) hd (fun q rr cA H1 hinj _ hK1 hP hD hS => ?_)
      have e1 : s.vm.findClass _ = some cA := K_new hK1
      have e2 : s.vm.findClass _ = some cB := (hx.2.2.2.2.2.1.2 _ _ hcB).2
      have e3 : cA = cB := Option.some.inj (e1.symm.trans e2)
      subst e3
      generalize hrows : va_pl ([] ++ (List.range N).map rr) (vr_up (fun _ => (.inr (0, []) : va_E)) ((List.range N).map rr) (.inl (cy, (K, .inr (.inl (fun _ => 0)))))) = rows at hP hD
      have hrl : rows.length = N := by rw [← hrows]; simp [va_pl]
      have hrat : ∀ j, j < N → rows[j]? = some (rr j, .inl (cy, (K, .inr (.inl (fun _ => 0))))) := fun j hj => by
        rw [← hrows]
        have hm : rr j ∈ (List.range N).map rr := List.mem_map.mpr ⟨j, List.mem_range.mpr hj, rfl⟩
        simp only [va_pl, List.nil_append, List.getElem?_map, List.getElem?_range hj, Option.map_some, vr_up_in hm]
      have hX1 : rX ws ((ws ++ [(q, .inl (cA, N, .inr (.inr (.inr (.inr (fun i => if i < N then some (rr i) else none))))))]) ++ rows) := rX.push.tr rX.app
      generalize hW : (ws ++ [(q, (.inl (cA, N, .inr (.inr (.inr (.inr (fun i => if i < N then some (rr i) else none))))) : va_E))]) ++ rows = W at hP hD hX1
      have hWr : ∀ j, j < N → W[ws.length + 1 + j]? = some (rr j, .inl (cy, (K, .inr (.inl (fun _ => 0))))) := fun j hj => by
        rw [← hW, List.getElem?_append_right (by rw [List.length_append, List.length_singleton]; omega), List.length_append, List.length_singleton, show ws.length + 1 + j - (ws.length + 1) = j by omega]
        exact hrat j hj
      have hWq : W[ws.length]? = some (q, .inl (cA, N, .inr (.inr (.inr (.inr (fun i => if i < N then some (rr i) else none)))))) := by
        rw [← hW, List.getElem?_append_left (by rw [List.length_append, List.length_singleton]; omega)]
        exact ws_new rfl
      have hHl := hH.1
      have hH1 : rH tys W ((f.2.2.1 ++ [.inr (8, .inr (.inr ((List.range N).map (fun j => some (f.2.2.1.length + 1 + j)))))]) ++ List.replicate N (.inr (4, .inr (.inl (List.replicate K 0))))) := by
        refine ⟨by rw [← hW]; simp [hrl, hHl], fun j d hj => ?_⟩
        by_cases h1 : j < f.2.2.1.length
        · rw [List.getElem?_append_left (by rw [List.length_append, List.length_singleton]; omega), List.getElem?_append_left h1] at hj
          obtain ⟨b, g, h2, h3⟩ := hH.2 j d hj
          obtain ⟨g', h4⟩ := hX1 j b g h2
          have h5 : W[j]? = ws[j]? := by
            rw [← hW, List.getElem?_append_left (by rw [List.length_append, List.length_singleton]; omega), List.getElem?_append_left (by omega)]
          exact ⟨b, g, by rw [h5]; exact h2, h3.ext hX1⟩
        · by_cases h2 : j = f.2.2.1.length
          · subst h2
            rw [List.getElem?_append_left (by rw [List.length_append, List.length_singleton]; omega), List.getElem?_append_right (Nat.le_refl _), Nat.sub_self] at hj
            cases hj
            refine ⟨q, _, by rw [← hHl]; exact hWq, cA, _, _, rfl, hcB, _, by rw [List.length_map, List.length_range], fun j y hj => ?_⟩
            rw [List.getElem?_map] at hj
            by_cases h3 : j < N
            · rw [List.getElem?_range h3] at hj
              cases hj
              exact ⟨rr j, _, by rw [← hHl]; exact hWr j h3, by rw [if_pos h3]⟩
            · rw [List.getElem?_eq_none (by rw [List.length_range]; omega)] at hj
              cases hj
          · rw [List.getElem?_append_right (by rw [List.length_append, List.length_singleton]; omega), List.length_append, List.length_singleton] at hj
            have h3 : j - (f.2.2.1.length + 1) < N := by
              have := (List.getElem?_eq_some_iff.mp hj).1
              rw [List.length_replicate] at this
              exact this
            cases rep_at hj
            have h4 := hWr (j - (f.2.2.1.length + 1)) h3
            rw [show ws.length + 1 + (j - (f.2.2.1.length + 1)) = j by omega] at h4
            exact ⟨_, _, h4, cy, _, _, rfl, hcy, _, by rw [List.length_replicate], fun j y hj => (rep_at hj).symm⟩
      exact kk H1 locs (cells + 1 + N) (slots + N + N * K) ls _ W hP hD hS (hX.tr hX1) hH1 (hL.ext hX1) ⟨_, us, rfl, ⟨q, _, by rw [← hHl]; exact hWq, rfl⟩, hs.ext hX1⟩ (by show cells + 1 + N + (f.2.2.2.1 - (1 + N)) = R.cells; omega) (by show slots + N + N * K + (f.2.2.2.2 - (N + N * K)) = R.slots; omega)
    · cases hg
  · cases hg
end OPX
