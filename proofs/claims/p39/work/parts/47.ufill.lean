/-! Arrays.fill and forgetWeights, on any heap -/
section FIL
theorem fill_set {α : Type} (xs : List α) (v : α) (j : Nat) (hj : j < xs.length) : (List.replicate j v ++ xs.drop j).set j v = List.replicate (j + 1) v ++ xs.drop (j + 1) := by
  rw [List.set_append_right _ _ (by simp), List.length_replicate, Nat.sub_self, List.drop_eq_getElem_cons hj, List.set_cons_zero, List.replicate_succ', List.append_assoc]
  rfl
theorem fill_len {α : Type} (xs : List α) (v : α) (j : Nat) (hj : j ≤ xs.length) : (List.replicate j v ++ xs.drop j).length = xs.length := by
  rw [List.length_append, List.length_replicate, List.length_drop]
  omega
variable {d : Nat} {Q : Option aV → aH → Prop} {kc ks : Nat} {h : aH} {a : Nat}
theorem fillJ_loop (v : Int64) (xs : List Int64) (hn : xs.length < 2 ^ 31) (ha : h[a]? = some (.inr (4, .inr (.inl xs)))) (hq : Q none (h.set a (.inr (4, .inr (.inl (List.replicate xs.length v)))))) : ∀ (k j : Nat), j + k = xs.length → uRun oJ7_fill_d0a16 (uCall Mt d) Q 6 ([some (.inr (.inr (some a))), some (.inr (.inl v)), none, some (.inl (nI j)), some (.inl (nI xs.length))], [], h.set a (.inr (4, .inr (.inl (List.replicate j v ++ xs.drop j)))), kc, ks)
  | 0, j, hj => by
    have e : j = xs.length := by omega
    subst e
    refine ur_ldI rfl rfl ?_
    refine ur_ldI rfl rfl ?_
    refine ur_if2t rfl (decide_eq_true (nI_le (Nat.le_refl _) hn)) ?_
    refine ur_ret0 rfl ?_
    rw [List.drop_length, List.append_nil]
    exact hq
  | k + 1, j, hj => by
    refine ur_ldI rfl rfl ?_
    refine ur_ldI rfl rfl ?_
    refine ur_if2f rfl (decide_eq_false (nI_ge (by omega) hn)) ?_
    refine ur_ldA rfl rfl ?_
    refine ur_ldI rfl rfl ?_
    refine ur_ldJ rfl rfl ?_
    refine ur_astJ rfl (hs_eq ha) (nI_pos (by omega)) (by rw [nI_clamp (by omega), fill_len _ _ _ (by omega)]; omega) ?_
    rw [nI_clamp (by omega), List.set_set, fill_set _ _ _ (by omega)]
    refine ur_incl (z := nI (j + 1)) [_, _, _, some (.inl _), _] rfl rfl (nI_1 j) rfl ?_
    refine ur_go rfl ?_
    exact fillJ_loop v xs hn ha hq k (j + 1) (by omega)
theorem fillI_loop (v : Int32) (xs : List Int32) (hn : xs.length < 2 ^ 31) (ha : h[a]? = some (.inr (0, .inl xs))) (hq : Q none (h.set a (.inr (0, .inl (List.replicate xs.length v))))) : ∀ (k j : Nat), j + k = xs.length → uRun oJ7_fill_53178 (uCall Mt d) Q 5 ([some (.inr (.inr (some a))), some (.inl v), some (.inl (nI j)), some (.inl (nI xs.length))], [], h.set a (.inr (0, .inl (List.replicate j v ++ xs.drop j))), kc, ks)
  | 0, j, hj => by
    have e : j = xs.length := by omega
    subst e
    refine ur_ldI rfl rfl ?_
    refine ur_ldI rfl rfl ?_
    refine ur_if2t rfl (decide_eq_true (nI_le (Nat.le_refl _) hn)) ?_
    refine ur_ret0 rfl ?_
    rw [List.drop_length, List.append_nil]
    exact hq
  | k + 1, j, hj => by
    refine ur_ldI rfl rfl ?_
    refine ur_ldI rfl rfl ?_
    refine ur_if2f rfl (decide_eq_false (nI_ge (by omega) hn)) ?_
    refine ur_ldA rfl rfl ?_
    refine ur_ldI rfl rfl ?_
    refine ur_ldI rfl rfl ?_
    refine ur_ast rfl (hs_eq ha) (nI_pos (by omega)) (by rw [nI_clamp (by omega), fill_len _ _ _ (by omega)]; omega) ?_
    rw [nI_clamp (by omega), List.set_set, fill_set _ _ _ (by omega)]
    refine ur_incl (z := nI (j + 1)) [_, _, some (.inl _), _] rfl rfl (nI_1 j) rfl ?_
    refine ur_go rfl ?_
    exact fillI_loop v xs hn ha hq k (j + 1) (by omega)
theorem set_same {h : aH} {c : aC} (ha : h[a]? = some c) : h.set a c = h := by
  obtain ⟨h1, h2⟩ := List.getElem?_eq_some_iff.mp ha
  rw [← h2]
  exact List.set_getElem_self h1
theorem sp_fillJ {v : Int64} {xs : List Int64} (hn : xs.length < 2 ^ 31) (ha : h[a]? = some (.inr (4, .inr (.inl xs)))) : uCall Mt (d + 1) 306 [.inr (.inr (some a)), .inr (.inl v)] h 0 0 (fun r h' => r = none ∧ h' = h.set a (.inr (4, .inr (.inl (List.replicate xs.length v))))) := by
  refine uc_ink [some (.inr (.inr (some a))), some (.inr (.inl v)), none, none, none] mt_306 (Nat.le_of_ble_eq_true rfl) rfl ?_
  refine ur_push rfl ?_
  refine ur_svIk [some (.inr (.inr (some a))), some (.inr (.inl v)), none, some (.inl (nI 0)), none] rfl (by rw [nI_0]; rfl) ?_
  refine ur_ldA rfl rfl ?_
  refine ur_len rfl ha ?_
  refine ur_svIk [some (.inr (.inr (some a))), some (.inr (.inl v)), none, some (.inl (nI 0)), some (.inl (nI xs.length))] rfl rfl ?_
  have k := fillJ_loop (d := d) (Q := fun r h' => r = none ∧ h' = h.set a (.inr (4, .inr (.inl (List.replicate xs.length v))))) (kc := 0) (ks := 0) v xs hn ha ⟨rfl, rfl⟩ xs.length 0 (Nat.zero_add _)
  rw [List.replicate_zero, List.nil_append, List.drop_zero, set_same ha] at k
  exact k
theorem sp_fillI {v : Int32} {xs : List Int32} (hn : xs.length < 2 ^ 31) (ha : h[a]? = some (.inr (0, .inl xs))) : uCall Mt (d + 1) 307 [.inr (.inr (some a)), .inl v] h 0 0 (fun r h' => r = none ∧ h' = h.set a (.inr (0, .inl (List.replicate xs.length v)))) := by
  refine uc_ink [some (.inr (.inr (some a))), some (.inl v), none, none] mt_307 (Nat.le_of_ble_eq_true rfl) rfl ?_
  refine ur_push rfl ?_
  refine ur_svIk [some (.inr (.inr (some a))), some (.inl v), some (.inl (nI 0)), none] rfl (by rw [nI_0]; rfl) ?_
  refine ur_ldA rfl rfl ?_
  refine ur_len rfl ha ?_
  refine ur_svIk [some (.inr (.inr (some a))), some (.inl v), some (.inl (nI 0)), some (.inl (nI xs.length))] rfl rfl ?_
  have k := fillI_loop (d := d) (Q := fun r h' => r = none ∧ h' = h.set a (.inr (0, .inl (List.replicate xs.length v)))) (kc := 0) (ks := 0) v xs hn ha ⟨rfl, rfl⟩ xs.length 0 (Nat.zero_add _)
  rw [List.replicate_zero, List.nil_append, List.drop_zero, set_same ha] at k
  exact k
end FIL
