/-! HOW MANY comets and words there are: counted with the books' own counters -/
section CNT
variable {d : Nat} {T : aTab} {Q : Option aV → aH → Prop} {pc : Nat} {al : aL} {st : List aV} {h : aH} {kc ks n i : Nat}
theorem nC_app1 {h L : aH} (e : L.countP pC = 1) : nC (h ++ L) ≤ nC h + 1 := by
  unfold nC
  rw [cp_app, e]
  omega
theorem nW_app1 {h L : aH} (e : L.countP pW = 1) : nW (h ++ L) ≤ nW h + 1 := by
  unfold nW
  rw [cp_app, e]
  omega
theorem un.nC {W : List Nat} {h h' : aH} (g : un W h h') (w : 9002 ∉ W) : nC h' ≤ nC h := g.2.2.2.1.resolve_left w
theorem un.nW {W : List Nat} {h h' : aH} (g : un W h h') (w : 9010 ∉ W) : nW h' ≤ nW h := g.2.2.2.2.resolve_left w
set_option maxRecDepth 20000 in
set_option maxHeartbeats 4000000 in
theorem sn_newComet (hO : OK h) (p s nd rc w b pa : Int32) (hQ : ∀ r h', r = none → OK h' → un [9002] h h' → (114 ≤ h.length ∧ tg h' h.length = (102, 14)) → nC h' ≤ nC h + 1 → Q r h') : uCall Mt (d + 2) 18 [.inr (.inr (some (h.length + 0))), .inl p, .inl s, .inl nd, .inl rc, .inl w, .inl b, .inl pa] (h ++ [.inl (2, [.inl 0, .inl 0, .inl 0, .inl 0, .inl 0, .inl 0, .inl 0, .inl 0, .inl 0, .inl 0, .inr (.inr none), .inr (.inr none), .inr (.inr none), .inr (.inr none)])]) kc ks Q := by
  refine uc_ink [some (.inr (.inr (some (h.length + 0)))), some (.inl p), some (.inl s), some (.inl nd), some (.inl rc), some (.inl w), some (.inl b), some (.inl pa), none] mt_18 (Nat.le_of_ble_eq_true rfl) rfl ?_
  refine ur_ldA rfl rfl ?_
  refine ur_obj rfl (Nat.le_of_ble_eq_true rfl) ?_
  refine ur_ldA rfl rfl ?_
  refine ur_push rfl ?_
  refine ur_putA (i0 := 0) (L' := [.inl (2, [.inl 0, .inl 0, .inl 0, .inl 0, .inl 0, .inl 0, .inl 0, .inl (-2000000000), .inl 0, .inl 0, .inr (.inr none), .inr (.inr none), .inr (.inr none), .inr (.inr none)])]) rfl rfl (Nat.le_of_ble_eq_true rfl) rfl rfl ?_
  refine ur_ldA rfl rfl ?_
  refine ur_push rfl ?_
  refine ur_putA (i0 := 0) (L' := [.inl (2, [.inl 0, .inl 0, .inl 0, .inl 0, .inl 0, .inl 0, .inl 0, .inl (-2000000000), .inl 0, .inl 0, .inr (.inr none), .inr (.inr none), .inr (.inr none), .inr (.inr none)])]) rfl rfl (Nat.le_of_ble_eq_true rfl) rfl rfl ?_
  refine ur_ldA rfl rfl ?_
  refine ur_push rfl ?_
  refine ur_putA (i0 := 0) (L' := [.inl (2, [.inl 0, .inl 0, .inl 0, .inl 0, .inl 0, .inl 0, .inl 0, .inl (-2000000000), .inl 0, .inl 0, .inr (.inr none), .inr (.inr none), .inr (.inr none), .inr (.inr none)])]) rfl rfl (Nat.le_of_ble_eq_true rfl) rfl rfl ?_
  refine ur_ldA rfl rfl ?_
  refine ur_push rfl ?_
  refine ur_newIA (L' := [.inl (2, [.inl 0, .inl 0, .inl 0, .inl 0, .inl 0, .inl 0, .inl 0, .inl (-2000000000), .inl 0, .inl 0, .inr (.inr none), .inr (.inr none), .inr (.inr none), .inr (.inr none)]), .inr (0, .inl (List.replicate 121 0))]) rfl (m := 121) (by decide) (by decide) (by decide) rfl ?_
  refine ur_putA (i0 := 0) (L' := [.inl (2, [.inl 0, .inl 0, .inl 0, .inl 0, .inl 0, .inl 0, .inl 0, .inl (-2000000000), .inl 0, .inl 0, .inr (.inr (some (h.length + 1))), .inr (.inr none), .inr (.inr none), .inr (.inr none)]), .inr (0, .inl (List.replicate 121 0))]) rfl rfl (Nat.le_of_ble_eq_true rfl) rfl rfl ?_
  refine ur_ldA rfl rfl ?_
  refine ur_push rfl ?_
  refine ur_newIA (L' := [.inl (2, [.inl 0, .inl 0, .inl 0, .inl 0, .inl 0, .inl 0, .inl 0, .inl (-2000000000), .inl 0, .inl 0, .inr (.inr (some (h.length + 1))), .inr (.inr none), .inr (.inr none), .inr (.inr none)]), .inr (0, .inl (List.replicate 121 0)), .inr (0, .inl (List.replicate 241 0))]) rfl (m := 241) (by decide) (by decide) (by decide) rfl ?_
  refine ur_putA (i0 := 0) (L' := [.inl (2, [.inl 0, .inl 0, .inl 0, .inl 0, .inl 0, .inl 0, .inl 0, .inl (-2000000000), .inl 0, .inl 0, .inr (.inr (some (h.length + 1))), .inr (.inr (some (h.length + 2))), .inr (.inr none), .inr (.inr none)]), .inr (0, .inl (List.replicate 121 0)), .inr (0, .inl (List.replicate 241 0))]) rfl rfl (Nat.le_of_ble_eq_true rfl) rfl rfl ?_
  refine ur_ldA rfl rfl ?_
  refine ur_push rfl ?_
  refine ur_putA (i0 := 0) (L' := [.inl (2, [.inl 0, .inl 0, .inl 0, .inl 0, .inl 0, .inl 0, .inl 0, .inl (-2000000000), .inl 0, .inl 0, .inr (.inr (some (h.length + 1))), .inr (.inr (some (h.length + 2))), .inr (.inr none), .inr (.inr none)]), .inr (0, .inl (List.replicate 121 0)), .inr (0, .inl (List.replicate 241 0))]) rfl rfl (Nat.le_of_ble_eq_true rfl) rfl rfl ?_
  refine ur_ldA rfl rfl ?_
  refine ur_push rfl ?_
  refine ur_newIA (L' := [.inl (2, [.inl 0, .inl 0, .inl 0, .inl 0, .inl 0, .inl 0, .inl 0, .inl (-2000000000), .inl 0, .inl 0, .inr (.inr (some (h.length + 1))), .inr (.inr (some (h.length + 2))), .inr (.inr none), .inr (.inr none)]), .inr (0, .inl (List.replicate 121 0)), .inr (0, .inl (List.replicate 241 0)), .inr (0, .inl (List.replicate 9 0))]) rfl (m := 9) (by decide) (by decide) (by decide) rfl ?_
  refine ur_putA (i0 := 0) (L' := [.inl (2, [.inl 0, .inl 0, .inl 0, .inl 0, .inl 0, .inl 0, .inl 0, .inl (-2000000000), .inl 0, .inl 0, .inr (.inr (some (h.length + 1))), .inr (.inr (some (h.length + 2))), .inr (.inr none), .inr (.inr (some (h.length + 3)))]), .inr (0, .inl (List.replicate 121 0)), .inr (0, .inl (List.replicate 241 0)), .inr (0, .inl (List.replicate 9 0))]) rfl rfl (Nat.le_of_ble_eq_true rfl) rfl rfl ?_
  refine ur_ldA rfl rfl ?_
  refine ur_ldI rfl rfl ?_
  refine ur_putA (i0 := 0) (L' := [.inl (2, [.inl p, .inl 0, .inl 0, .inl 0, .inl 0, .inl 0, .inl 0, .inl (-2000000000), .inl 0, .inl 0, .inr (.inr (some (h.length + 1))), .inr (.inr (some (h.length + 2))), .inr (.inr none), .inr (.inr (some (h.length + 3)))]), .inr (0, .inl (List.replicate 121 0)), .inr (0, .inl (List.replicate 241 0)), .inr (0, .inl (List.replicate 9 0))]) rfl rfl (Nat.le_of_ble_eq_true rfl) rfl rfl ?_
  refine ur_ldA rfl rfl ?_
  refine ur_ldI rfl rfl ?_
  refine ur_putA (i0 := 0) (L' := [.inl (2, [.inl p, .inl s, .inl 0, .inl 0, .inl 0, .inl 0, .inl 0, .inl (-2000000000), .inl 0, .inl 0, .inr (.inr (some (h.length + 1))), .inr (.inr (some (h.length + 2))), .inr (.inr none), .inr (.inr (some (h.length + 3)))]), .inr (0, .inl (List.replicate 121 0)), .inr (0, .inl (List.replicate 241 0)), .inr (0, .inl (List.replicate 9 0))]) rfl rfl (Nat.le_of_ble_eq_true rfl) rfl rfl ?_
  refine ur_ldA rfl rfl ?_
  refine ur_ldI rfl rfl ?_
  refine ur_putA (i0 := 0) (L' := [.inl (2, [.inl p, .inl s, .inl nd, .inl 0, .inl 0, .inl 0, .inl 0, .inl (-2000000000), .inl 0, .inl 0, .inr (.inr (some (h.length + 1))), .inr (.inr (some (h.length + 2))), .inr (.inr none), .inr (.inr (some (h.length + 3)))]), .inr (0, .inl (List.replicate 121 0)), .inr (0, .inl (List.replicate 241 0)), .inr (0, .inl (List.replicate 9 0))]) rfl rfl (Nat.le_of_ble_eq_true rfl) rfl rfl ?_
  refine ur_ldA rfl rfl ?_
  refine ur_ldI rfl rfl ?_
  refine ur_putA (i0 := 0) (L' := [.inl (2, [.inl p, .inl s, .inl nd, .inl rc, .inl 0, .inl 0, .inl 0, .inl (-2000000000), .inl 0, .inl 0, .inr (.inr (some (h.length + 1))), .inr (.inr (some (h.length + 2))), .inr (.inr none), .inr (.inr (some (h.length + 3)))]), .inr (0, .inl (List.replicate 121 0)), .inr (0, .inl (List.replicate 241 0)), .inr (0, .inl (List.replicate 9 0))]) rfl rfl (Nat.le_of_ble_eq_true rfl) rfl rfl ?_
  refine ur_ldA rfl rfl ?_
  refine ur_ldI rfl rfl ?_
  refine ur_putA (i0 := 0) (L' := [.inl (2, [.inl p, .inl s, .inl nd, .inl rc, .inl w, .inl 0, .inl 0, .inl (-2000000000), .inl 0, .inl 0, .inr (.inr (some (h.length + 1))), .inr (.inr (some (h.length + 2))), .inr (.inr none), .inr (.inr (some (h.length + 3)))]), .inr (0, .inl (List.replicate 121 0)), .inr (0, .inl (List.replicate 241 0)), .inr (0, .inl (List.replicate 9 0))]) rfl rfl (Nat.le_of_ble_eq_true rfl) rfl rfl ?_
  refine ur_ldA rfl rfl ?_
  refine ur_ldI rfl rfl ?_
  refine ur_putA (i0 := 0) (L' := [.inl (2, [.inl p, .inl s, .inl nd, .inl rc, .inl w, .inl b, .inl 0, .inl (-2000000000), .inl 0, .inl 0, .inr (.inr (some (h.length + 1))), .inr (.inr (some (h.length + 2))), .inr (.inr none), .inr (.inr (some (h.length + 3)))]), .inr (0, .inl (List.replicate 121 0)), .inr (0, .inl (List.replicate 241 0)), .inr (0, .inl (List.replicate 9 0))]) rfl rfl (Nat.le_of_ble_eq_true rfl) rfl rfl ?_
  refine ur_ldA rfl rfl ?_
  refine ur_ldI rfl rfl ?_
  refine ur_putA (i0 := 0) (L' := [.inl (2, [.inl p, .inl s, .inl nd, .inl rc, .inl w, .inl b, .inl pa, .inl (-2000000000), .inl 0, .inl 0, .inr (.inr (some (h.length + 1))), .inr (.inr (some (h.length + 2))), .inr (.inr none), .inr (.inr (some (h.length + 3)))]), .inr (0, .inl (List.replicate 121 0)), .inr (0, .inl (List.replicate 241 0)), .inr (0, .inl (List.replicate 9 0))]) rfl rfl (Nat.le_of_ble_eq_true rfl) rfl rfl ?_
  refine ur_push rfl ?_
  refine ur_svIk [some (.inr (.inr (some (h.length + 0)))), some (.inl p), some (.inl s), some (.inl nd), some (.inl rc), some (.inl w), some (.inl b), some (.inl pa), some (.inl 0)] rfl rfl ?_
  have loop : ∀ (k : Nat) (z : Int32) (ds : List Int32), ds.length = 241 → 0 ≤ z.toInt → (241 - z.toInt).toNat < k → uRun oX2_init (uCall Mt (d + 1)) Q 92 ([some (.inr (.inr (some (h.length + 0)))), some (.inl p), some (.inl s), some (.inl nd), some (.inl rc), some (.inl w), some (.inl b), some (.inl pa), some (.inl z)], [], h ++ ncL h p s nd rc w b pa ds, kc, ks) := by
    intro k
    induction k with
    | zero => intro z ds _ _ hk; omega
    | succ k ih =>
      intro z ds hd hz hk
      have l_120 : ((120) : Int32).toInt = 120 := by decide
      have l_241 : ((241) : Int32).toInt = 241 := by decide
      have l_1 : ((1) : Int32).toInt = 1 := by decide
      refine ur_ldI rfl rfl ?_
      refine ur_push rfl ?_
      refine ur_if2 rfl (fun c => ?_) (fun c => ?_)
      · obtain ⟨a1, a2, a3⟩ := ncL_ok hO (p := p) (s := s) (nd := nd) (rc := rc) (w := w) (b := b) (pa := pa) hd
        exact ur_ret0 rfl (hQ _ _ rfl a1 a2 ⟨hO.len, a3⟩ (nC_app1 rfl))
      · have t := le_no c
        refine ur_ldA rfl rfl ?_
        refine ur_get rfl (ap_get (j := 0)) rfl ?_
        refine ur_ldI rfl rfl ?_
        refine ur_ldI rfl rfl ?_
        refine ur_ldI rfl rfl ?_
        refine ur_ldI rfl rfl ?_
        refine ur_push rfl ?_
        refine ur_binV rfl (fun x1 e1 => ?_)
        refine ur_ldI rfl rfl ?_
        refine ur_inl rfl rfl (Nat.le_of_ble_eq_true rfl) (Nat.le_of_ble_eq_true rfl) (sf_X11_turned _ _ _ (fun r hr => ?_))
        obtain ⟨x2, rfl⟩ := hr
        show uRun _ (uCall Mt _) _ 119 (_, [.inl x2, .inl nd, .inl z, .inr (.inr (some (h.length + 2)))], _, _, _)
        refine ur_binV rfl (fun x3 e3 => ?_)
        refine ur_push rfl ?_
        refine ur_binV rfl (fun x4 e4 => ?_)
        refine ur_push rfl ?_
        refine ur_divV rfl (by decide) (fun x5 e5 => ?_)
        refine ur_ast rfl (ap_get (j := 2)) (pos_ix hz) (by show z.toInt.toNat < ds.length; omega) ?_
        rw [ap_set]
        refine ur_incV (fun z => [some (.inr (.inr (some (h.length + 0)))), some (.inl p), some (.inl s), some (.inl nd), some (.inl rc), some (.inl w), some (.inl b), some (.inl pa), some (.inl z)]) rfl rfl (fun _ => rfl) (fun z2 e6 => ?_)
        have := any_r z
        have t2 := ti_add e6 (by omega) (by omega)
        refine ur_go rfl ?_
        exact ih z2 (ds.set z.toInt.toNat x5) (by rw [List.length_set]; exact hd) (by omega) (by omega)
  exact loop 242 0 (List.replicate 241 0) (List.length_replicate ..) (by decide) (by decide)
end CNT
