section SGT
/-! YEARS PUT RIGHT: what ties both sides -/
theorem FV_iff {ls l1 : List (List (Int × Int) × List (Int × Int))} {h h1 : aH} {j c mv t : Int} {w z : Nat} (bw : BUw h h1 j w) (bc : BUc h h1 c z) (er : ro h w = w) : FWm ls l1 h1 (LL h1) j c mv t ↔ FXz ls l1 h w z t mv := by
  obtain ⟨en, eV, es, ek, ep, em⟩ := bw
  rw [er] at en eV es
  have e2 : gI h1 74 c = fO h z 2 := bc 2 (by decide)
  have e3 : gI h1 75 c = fO h z 3 := bc 3 (by decide)
  have e4 : gI h1 76 c = fO h z 4 := bc 4 (by decide)
  have e5 : gI h1 77 c = fO h z 5 := bc 5 (by decide)
  have nn : ∀ (V : Int → Int) (sl d j : Int), SPi V sl d j → 0 ≤ d := fun V sl d j s => by
    have := spF_0 (v := V j) (s := sl)
    unfold SPi at s
    omega
  unfold FWm FXz FMz
  rw [ek, ep, em, e2, e3, e4, e5]
  constructor
  · rintro ⟨y, f, n⟩
    refine (FTD.ne (y := y) (FTD.c f en.symm (fun i i0 i1 => ?_) es.symm rfl (fun d => Iff.rfl) (fun d _ => Iff.rfl) (fun d i _ _ s k _ => ?_))).mp n
    · show VC h w i + mv = VM h1 (LL h1) (rt h1 j) i + mv
      rw [eV i i0 (by omega)]
    · have := nn _ _ _ _ s
      have := k.1
      constructor <;> intro _ <;> omega
  · intro f
    obtain ⟨y, g⟩ := FTD.ex (n := fO h w 10) (V := fun i => VC h w i + mv) (sl := fO h w 4) (C := fun d => canP ls (fO h z 2) (fO h z 4) (fO h z 3) (fO h z 5) (fO h w 2) t d) (A := fun d => asP l1 (fO h w 1) (fO h w 8) (fO h w 2) (fO h z 2) (fO h z 4) (fO h z 3) (fO h z 5) (d - t) d) (W := fun d => -120 ≤ d - t ∧ d - t ≤ 120) (ki := fO h w 1)
    refine ⟨y, FTD.c g en (fun i i0 i1 => ?_) es rfl (fun d => Iff.rfl) (fun d _ => Iff.rfl) (fun d i _ _ s k _ => ?_), (FTD.ne g).mpr f⟩
    · show VM h1 (LL h1) (rt h1 j) i + mv = VC h w i + mv
      rw [eV i i0 i1]
    · have := nn _ _ _ _ s
      have := k.1
      constructor <;> intro _ <;> omega
theorem RW_iff {ls l1 : List (List (Int × Int) × List (Int × Int))} {h h1 : aH} {j c pe mv : Int} {w z : Nat} (bw : BUw h h1 j w) (bc : BUc h h1 c z) (ww : wz h j w) (n3 : fO h w 1 ≠ 3 → ro h w = w) (R : RTq h h1 c z) : RMF ls l1 h1 (LL h1) pe c mv j ↔ RWF ls l1 h pe z mv j := by
  rw [RWF.iff ww]
  have ek := bw.2.2.2.1
  have ep := bw.2.2.2.2.1
  obtain ⟨r1, x1, z1⟩ := R
  unfold RMF
  rw [ek, ep]
  constructor
  · rintro ⟨a, b, q⟩
    refine ⟨b, a, Classical.byContradiction fun s => q (fun k k0 k1 => ⟨cf h z k, x1 k, fun m => s ⟨k, ?_, (FV_iff bw bc (n3 a)).mp m.2⟩⟩)⟩
    refine Classical.byContradiction fun i => ?_
    have := (r1 k _ k0 (by omega) (x1 k)).2.2 i
    omega
  · rintro ⟨b, a, k, r, f⟩
    refine ⟨a, b, fun m => ?_⟩
    obtain ⟨t, r', n⟩ := m k (by omega) (by omega)
    obtain ⟨e, g, -⟩ := r1 k t (by omega) (by omega) r'
    exact n ⟨g r, by rw [e]; exact (FV_iff bw bc (n3 a)).mpr f⟩
def ZT (h : aH) : Prop := gI h 47 0 = 0 ∧ gI h 48 0 = 0
theorem ZT.un {W : List Nat} {h h' : aH} (g : ZT h) (hO : OK h) (u : un W h h') (w : 47 ∉ W ∧ 48 ∉ W) : ZT h' := by
  unfold ZT
  rw [gI_keep (a := 47) (kd := 0) (n := 242) hO u 0 (by decide) rfl (by decide) rfl (by decide) w.1, gI_keep (a := 48) (kd := 0) (n := 242) hO u 0 (by decide) rfl (by decide) rfl (by decide) w.2]
  exact g
theorem WT.n3 {h : aH} (T : WT h) : N3w h := fun i z i0 i1 w k => by
  obtain ⟨z', w', p0, p1, p2, p3, p4, p5, p6, p7, p8, p9, -⟩ := T i i0 i1
  obtain rfl := wz_u w w'
  exact Or.inl ⟨p9 (by omega), rfl⟩
end SGT
