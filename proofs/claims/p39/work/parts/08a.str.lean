/-! STRING.indexOf on the one String constant: the JDK's own bytecode, walked by hand -/
theorem tz_1 {w : Cond} (h : w ∈ tables_1_1) (hg : goodWord w = true) : w ∈ wG := List.mem_filter.mpr ⟨List.mem_append_right _ (List.mem_append_left _ h), hg⟩
theorem tz_2 {w : Cond} (h : w ∈ tables_1_2) (hg : goodWord w = true) : w ∈ wG := List.mem_filter.mpr ⟨List.mem_append_right _ (List.mem_append_right _ (List.mem_append_left _ h)), hg⟩
theorem tz_3 {w : Cond} (h : w ∈ tables_1_3) (hg : goodWord w = true) : w ∈ wG := List.mem_filter.mpr ⟨List.mem_append_right _ (List.mem_append_right _ (List.mem_append_right _ (List.mem_append_left _ h))), hg⟩
theorem tz_4 {w : Cond} (h : w ∈ tables_1_4) (hg : goodWord w = true) : w ∈ wG := List.mem_filter.mpr ⟨List.mem_append_right _ (List.mem_append_right _ (List.mem_append_right _ (List.mem_append_right _ (List.mem_append_left _ h)))), hg⟩
theorem tz_5 {w : Cond} (h : w ∈ tables_1_5) (hg : goodWord w = true) : w ∈ wG := List.mem_filter.mpr ⟨List.mem_append_right _ (List.mem_append_right _ (List.mem_append_right _ (List.mem_append_right _ (List.mem_append_right _ (List.mem_append_left _ h))))), hg⟩
theorem tz_6 {w : Cond} (h : w ∈ tables_1_6) (hg : goodWord w = true) : w ∈ wG := List.mem_filter.mpr ⟨List.mem_append_right _ (List.mem_append_right _ (List.mem_append_right _ (List.mem_append_right _ (List.mem_append_right _ (List.mem_append_right _ (List.mem_append_left _ h)))))), hg⟩
theorem tz_7 {w : Cond} (h : w ∈ tables_1_7) (hg : goodWord w = true) : w ∈ wG := List.mem_filter.mpr ⟨List.mem_append_right _ (List.mem_append_right _ (List.mem_append_right _ (List.mem_append_right _ (List.mem_append_right _ (List.mem_append_right _ (List.mem_append_right _ (List.mem_append_left _ h))))))), hg⟩
theorem tz_8 {w : Cond} (h : w ∈ tables_1_8) (hg : goodWord w = true) : w ∈ wG := List.mem_filter.mpr ⟨List.mem_append_right _ (List.mem_append_right _ (List.mem_append_right _ (List.mem_append_right _ (List.mem_append_right _ (List.mem_append_right _ (List.mem_append_right _ (List.mem_append_right _ (List.mem_append_left _ h)))))))), hg⟩
theorem tz_9 {w : Cond} (h : w ∈ tables_1_9) (hg : goodWord w = true) : w ∈ wG := List.mem_filter.mpr ⟨List.mem_append_right _ (List.mem_append_right _ (List.mem_append_right _ (List.mem_append_right _ (List.mem_append_right _ (List.mem_append_right _ (List.mem_append_right _ (List.mem_append_right _ (List.mem_append_right _ h)))))))), hg⟩
theorem jc_io1 : Cond.code yJ0_indexOf_0f7a4 cJ0_indexOf_0f7a4 2 (some .int) ∈ wG := tz_3 (List.mem_of_getElem? (i := 155) rfl) rfl
theorem ji_io1 : (Jvm.Cond.instanceMethod ({ cls := "java/lang/String", name := "indexOf", desc := "(I)I" } : Jvm.MethodName)) ∈ wG := tz_3 (List.mem_of_getElem? (i := 153) rfl) rfl
theorem js_io1 : (Jvm.Cond.selects "java/lang/String" ({ cls := "java/lang/String", name := "indexOf", desc := "(I)I" } : Jvm.MethodName) ({ cls := "java/lang/String", name := "indexOf", desc := "(I)I" } : Jvm.MethodName)) ∈ wG := tz_3 (List.mem_of_getElem? (i := 154) rfl) rfl
theorem jc_io2 : Cond.code yJ0_indexOf_7cf53 cJ0_indexOf_7cf53 3 (some .int) ∈ wG := tz_3 (List.mem_of_getElem? (i := 159) rfl) rfl
theorem ji_io2 : (Jvm.Cond.instanceMethod ({ cls := "java/lang/String", name := "indexOf", desc := "(II)I" } : Jvm.MethodName)) ∈ wG := tz_3 (List.mem_of_getElem? (i := 157) rfl) rfl
theorem js_io2 : (Jvm.Cond.selects "java/lang/String" ({ cls := "java/lang/String", name := "indexOf", desc := "(II)I" } : Jvm.MethodName) ({ cls := "java/lang/String", name := "indexOf", desc := "(II)I" } : Jvm.MethodName)) ∈ wG := tz_3 (List.mem_of_getElem? (i := 158) rfl) rfl
theorem jc_isl : Cond.code yJ0_isLatin1_aae02 cJ0_isLatin1_aae02 1 (some .boolean) ∈ wG := tz_3 (List.mem_of_getElem? (i := 163) rfl) rfl
theorem ji_isl : (Jvm.Cond.instanceMethod ({ cls := "java/lang/String", name := "isLatin1", desc := "()Z" } : Jvm.MethodName)) ∈ wG := tz_3 (List.mem_of_getElem? (i := 161) rfl) rfl
theorem js_isl : (Jvm.Cond.selects "java/lang/String" ({ cls := "java/lang/String", name := "isLatin1", desc := "()Z" } : Jvm.MethodName) ({ cls := "java/lang/String", name := "isLatin1", desc := "()Z" } : Jvm.MethodName)) ∈ wG := tz_3 (List.mem_of_getElem? (i := 162) rfl) rfl
theorem jc_len : Cond.code yJ0_length_8abf5 cJ0_length_8abf5 1 (some .int) ∈ wG := tz_3 (List.mem_of_getElem? (i := 169) rfl) rfl
theorem ji_len : (Jvm.Cond.instanceMethod ({ cls := "java/lang/String", name := "length", desc := "()I" } : Jvm.MethodName)) ∈ wG := tz_3 (List.mem_of_getElem? (i := 167) rfl) rfl
theorem js_len : (Jvm.Cond.selects "java/lang/String" ({ cls := "java/lang/String", name := "length", desc := "()I" } : Jvm.MethodName) ({ cls := "java/lang/String", name := "length", desc := "()I" } : Jvm.MethodName)) ∈ wG := tz_3 (List.mem_of_getElem? (i := 168) rfl) rfl
theorem jc_cod : Cond.code yJ0_coder_7d493 cJ0_coder_7d493 1 (some .byte) ∈ wG := tz_3 (List.mem_of_getElem? (i := 173) rfl) rfl
theorem ji_cod : (Jvm.Cond.instanceMethod ({ cls := "java/lang/String", name := "coder", desc := "()B" } : Jvm.MethodName)) ∈ wG := tz_3 (List.mem_of_getElem? (i := 171) rfl) rfl
theorem js_cod : (Jvm.Cond.selects "java/lang/String" ({ cls := "java/lang/String", name := "coder", desc := "()B" } : Jvm.MethodName) ({ cls := "java/lang/String", name := "coder", desc := "()B" } : Jvm.MethodName)) ∈ wG := tz_3 (List.mem_of_getElem? (i := 172) rfl) rfl
theorem jc_l1 : Cond.code yJ1_indexOf_4cfef cJ1_indexOf_4cfef 4 (some .int) ∈ wG := tz_3 (List.mem_of_getElem? (i := 176) rfl) rfl
theorem jt_l1 : (Jvm.Cond.static ({ cls := "java/lang/StringLatin1", name := "indexOf", desc := "([BIII)I" } : Jvm.MethodName)) ∈ wG := tz_3 (List.mem_of_getElem? (i := 175) rfl) rfl
theorem jc_ce : Cond.code yJ1_canEncode_9a6ad cJ1_canEncode_9a6ad 1 (some .boolean) ∈ wG := tz_3 (List.mem_of_getElem? (i := 179) rfl) rfl
theorem jt_ce : (Jvm.Cond.static ({ cls := "java/lang/StringLatin1", name := "canEncode", desc := "(I)Z" } : Jvm.MethodName)) ∈ wG := tz_3 (List.mem_of_getElem? (i := 178) rfl) rfl
theorem jc_ioc : Cond.code yJ1_indexOfChar_4cfef cJ1_indexOfChar_4cfef 6 (some .int) ∈ wG := tz_3 (List.mem_of_getElem? (i := 184) rfl) rfl
theorem jt_ioc : (Jvm.Cond.static ({ cls := "java/lang/StringLatin1", name := "indexOfChar", desc := "([BIII)I" } : Jvm.MethodName)) ∈ wG := tz_3 (List.mem_of_getElem? (i := 183) rfl) rfl
theorem jn_S : (Jvm.Cond.initialized "java/lang/String") ∈ wG := tz_1 (List.mem_of_getElem? (i := 15) rfl) rfl
theorem jn_L : (Jvm.Cond.initialized "java/lang/StringLatin1") ∈ wG := tz_1 (List.mem_of_getElem? (i := 16) rfl) rfl
theorem jn_M : (Jvm.Cond.initialized "java/lang/Math") ∈ wG := tz_1 (List.mem_of_getElem? (i := 14) rfl) rfl
theorem jl_io2 : (Jvm.Cond.methodLink "java/lang/String" (633 : Nat) ({ cls := "java/lang/String", name := "indexOf", desc := "(II)I" } : Jvm.MethodName)) ∈ wG := tz_3 (List.mem_of_getElem? (i := 156) rfl) rfl
theorem jl_isl : (Jvm.Cond.methodLink "java/lang/String" (492 : Nat) ({ cls := "java/lang/String", name := "isLatin1", desc := "()Z" } : Jvm.MethodName)) ∈ wG := tz_3 (List.mem_of_getElem? (i := 160) rfl) rfl
theorem jl_len : (Jvm.Cond.methodLink "java/lang/String" (505 : Nat) ({ cls := "java/lang/String", name := "length", desc := "()I" } : Jvm.MethodName)) ∈ wG := tz_3 (List.mem_of_getElem? (i := 166) rfl) rfl
theorem jl_cod : (Jvm.Cond.methodLink "java/lang/String" (335 : Nat) ({ cls := "java/lang/String", name := "coder", desc := "()B" } : Jvm.MethodName)) ∈ wG := tz_3 (List.mem_of_getElem? (i := 170) rfl) rfl
theorem jl_l1 : (Jvm.Cond.methodLink "java/lang/String" (637 : Nat) ({ cls := "java/lang/StringLatin1", name := "indexOf", desc := "([BIII)I" } : Jvm.MethodName)) ∈ wG := tz_3 (List.mem_of_getElem? (i := 174) rfl) rfl
theorem jl_ce : (Jvm.Cond.methodLink "java/lang/StringLatin1" (88 : Nat) ({ cls := "java/lang/StringLatin1", name := "canEncode", desc := "(I)Z" } : Jvm.MethodName)) ∈ wG := tz_3 (List.mem_of_getElem? (i := 177) rfl) rfl
theorem jl_ioc : (Jvm.Cond.methodLink "java/lang/StringLatin1" (95 : Nat) ({ cls := "java/lang/StringLatin1", name := "indexOfChar", desc := "([BIII)I" } : Jvm.MethodName)) ∈ wG := tz_3 (List.mem_of_getElem? (i := 182) rfl) rfl
theorem jl_io1 : (Jvm.Cond.methodLink "SameStar$Tape" (87 : Nat) ({ cls := "java/lang/String", name := "indexOf", desc := "(I)I" } : Jvm.MethodName)) ∈ wG := tz_3 (List.mem_of_getElem? (i := 152) rfl) rfl
theorem jlm_max : (Jvm.Cond.methodLink "java/lang/StringLatin1" (92 : Nat) ({ cls := "java/lang/Math", name := "max", desc := "(II)I" } : Jvm.MethodName)) ∈ wG := tz_3 (List.mem_of_getElem? (i := 180) rfl) rfl
theorem jtm_max : (Jvm.Cond.static ({ cls := "java/lang/Math", name := "max", desc := "(II)I" } : Jvm.MethodName)) ∈ wG := tz_3 (List.mem_of_getElem? (i := 52) rfl) rfl
theorem jcm_max : Cond.code Lib.Math.max.name Lib.Math.max.code 2 (some .int) ∈ wG := tz_3 (List.mem_of_getElem? (i := 53) rfl) rfl
theorem jlm_min : (Jvm.Cond.methodLink "java/lang/StringLatin1" (38 : Nat) ({ cls := "java/lang/Math", name := "min", desc := "(II)I" } : Jvm.MethodName)) ∈ wG := tz_3 (List.mem_of_getElem? (i := 181) rfl) rfl
theorem jtm_min : (Jvm.Cond.static ({ cls := "java/lang/Math", name := "min", desc := "(II)I" } : Jvm.MethodName)) ∈ wG := tz_3 (List.mem_of_getElem? (i := 30) rfl) rfl
theorem jcm_min : Cond.code Lib.Math.min.name Lib.Math.min.code 2 (some .int) ∈ wG := tz_3 (List.mem_of_getElem? (i := 31) rfl) rfl
theorem jf_cs : (Jvm.Cond.fieldLink "java/lang/String" (38 : Nat) "java/lang/String" "COMPACT_STRINGS" "Z") ∈ wG := tz_3 (List.mem_of_getElem? (i := 164) rfl) rfl
theorem jf_co : (Jvm.Cond.fieldLink "java/lang/String" (15 : Nat) "java/lang/String" "coder" "B") ∈ wG := tz_9 (List.mem_of_getElem? (i := 98) rfl) rfl
theorem jf_va : (Jvm.Cond.fieldLink "java/lang/String" (9 : Nat) "java/lang/String" "value" "[B") ∈ wG := tz_9 (List.mem_of_getElem? (i := 99) rfl) rfl
theorem jd_io1 : yJ0_indexOf_0f7a4.cls ≠ "java/lang/invoke/MethodHandle" ∧ yJ0_indexOf_0f7a4.cls ≠ "java/lang/invoke/VarHandle" ∧ (parseMethodDescriptor yJ0_indexOf_0f7a4.desc).map (fun d => d.parameters.length) = some 1 := by decide +kernel
theorem jd_io2 : yJ0_indexOf_7cf53.cls ≠ "java/lang/invoke/MethodHandle" ∧ yJ0_indexOf_7cf53.cls ≠ "java/lang/invoke/VarHandle" ∧ (parseMethodDescriptor yJ0_indexOf_7cf53.desc).map (fun d => d.parameters.length) = some 2 := by decide +kernel
theorem jd_isl : yJ0_isLatin1_aae02.cls ≠ "java/lang/invoke/MethodHandle" ∧ yJ0_isLatin1_aae02.cls ≠ "java/lang/invoke/VarHandle" ∧ (parseMethodDescriptor yJ0_isLatin1_aae02.desc).map (fun d => d.parameters.length) = some 0 := by decide +kernel
theorem jd_len : yJ0_length_8abf5.cls ≠ "java/lang/invoke/MethodHandle" ∧ yJ0_length_8abf5.cls ≠ "java/lang/invoke/VarHandle" ∧ (parseMethodDescriptor yJ0_length_8abf5.desc).map (fun d => d.parameters.length) = some 0 := by decide +kernel
theorem jd_cod : yJ0_coder_7d493.cls ≠ "java/lang/invoke/MethodHandle" ∧ yJ0_coder_7d493.cls ≠ "java/lang/invoke/VarHandle" ∧ (parseMethodDescriptor yJ0_coder_7d493.desc).map (fun d => d.parameters.length) = some 0 := by decide +kernel
theorem jd_l1 : yJ1_indexOf_4cfef.cls ≠ "java/lang/invoke/MethodHandle" ∧ yJ1_indexOf_4cfef.cls ≠ "java/lang/invoke/VarHandle" ∧ (parseMethodDescriptor yJ1_indexOf_4cfef.desc).map (fun d => d.parameters.length) = some 4 := by decide +kernel
theorem jd_ce : yJ1_canEncode_9a6ad.cls ≠ "java/lang/invoke/MethodHandle" ∧ yJ1_canEncode_9a6ad.cls ≠ "java/lang/invoke/VarHandle" ∧ (parseMethodDescriptor yJ1_canEncode_9a6ad.desc).map (fun d => d.parameters.length) = some 1 := by decide +kernel
theorem jd_ioc : yJ1_indexOfChar_4cfef.cls ≠ "java/lang/invoke/MethodHandle" ∧ yJ1_indexOfChar_4cfef.cls ≠ "java/lang/invoke/VarHandle" ∧ (parseMethodDescriptor yJ1_indexOfChar_4cfef.desc).map (fun d => d.parameters.length) = some 4 := by decide +kernel
abbrev rmP (k : Nat) : Room := { frames := k, cells := 0, slots := 0, locals := 60 * k }
abbrev wsJ (y : MethodName) (cc : ByteArray) (n : Nat) (ret : Option FieldType) : List Cond := .code y cc n ret :: wG
def nF : Nat → Prop := fun _ => False
def qI (v : Int32) : Array Value → State → Outcome → State → Prop := fun _ st oc t => oc = .returned (some (.int v)) ∧ va_F nF st t
theorem jG {y : MethodName} {cc : ByteArray} {n : Nat} {ret : Option FieldType} (h : Cond.code y cc n ret ∈ wG) : GoodIn wG (wsJ y cc n ret) := wG_good (fun w hw => by
  rcases List.mem_cons.mp hw with rfl | hw
  · exact h
  · exact hw)
theorem jCB {s : State} {args : Array Value} {own : String} {index k n maxL : Nat} {y : MethodName} {cc : ByteArray} {ret : Option FieldType} {R : Room} (hts : ∀ w ∈ wG, w.before args s = true) (hc : Cond.code y cc maxL ret ∈ wG) (hini : Cond.initialized y.cls ∈ wG) (hl : Cond.methodLink own index y ∈ wG) (hd : y.cls ≠ "java/lang/invoke/MethodHandle" ∧ y.cls ≠ "java/lang/invoke/VarHandle" ∧ (parseMethodDescriptor y.desc).map (fun d => d.parameters.length) = some n) (h1 : k + 1 ≤ R.frames) (h2 : 60 * k + 60 ≤ R.locals) (h3 : maxL ≤ 21) : CallB R s args own index y cc maxL ret (wsJ y cc maxL ret) (rmP k) 0 0 n :=
  callB_of n hts (jG hc) rfl rfl rfl (hts _ hini) (hts _ hl) hd ⟨h1, by show 8 + (maxL + 11) + 60 * k ≤ R.locals; omega⟩
section QCA
variable {p : Program} {l : Launch} {e : Env} {R : Room} {s : State} {m : MethodId} {args : Array Value} {below : List Frame} {meth : Method} {c : Code} {H : Heap} {locs : List Loc} {cells slots : Nat} {Q : State → Prop} {ls : Array Slot} {rest st0 : List Value} {a : Array Value} {A0 : Nat → Prop} {H0 : Heap} {pc : Nat}
theorem q_call {v : Int32} (hr : va_Run p l e R s m args below meth c H locs cells slots 0 0 (F0 m pc ls st0) rest (qI v a) nF) (hS : va_S A0 H0 H locs)
    (kk : ∀ (H1 : Heap) (locs1 : List Loc), H.size ≤ H1.size → (∀ q : Nat, q < H.size → H1[q]? = H[q]?) → va_S A0 H0 H1 locs1 → W p l e R s m args below meth c H1 locs1 cells slots Q (F0 m (pc + 3) ls (.int v :: rest))) : W p l e R s m args below meth c H locs cells slots Q (F0 m pc ls st0) := by
  intro T hT X
  obtain ⟨v', st₀, t, T', L, h0, X', hL, e1, e2, ⟨hv, hz, hk⟩, st⟩ := hr T hT X
  cases hv
  rw [h0] at hz hk
  obtain ⟨t2, a1, b1⟩ := kk T'.heap (locs ++ L) (by rw [e1]; exact hz) (fun q h1 => by rw [e1]; exact hk q h1 (fun z => z))
    ⟨Nat.le_trans hS.1 (by rw [e1]; exact hz), fun q h1 h2 => by rw [e1, hk q (Nat.lt_of_lt_of_le h1 hS.1) (fun z => z)]; exact hS.2.1 q h1 h2, fun q hq => by
      rcases List.mem_append.mp hq with h | h
      · exact hS.2.2 q h
      · exact (hL q h).elim⟩ T' rfl X'
  exact ⟨t2, st t2 a1, b1⟩
end QCA
theorem blT {us : List Value} : FrameBlind (va_Pc us (fun _ => True)) := fun _ _ _ _ q => q
def gA (v : Nat) (U : State) : Prop := va_T .byte v 10 (fun j => .int (lNm.getD j 0)) nF U U.heap
theorem blA {us : List Value} {v : Nat} : FrameBlind (va_Pc us (gA v)) := fun a U g mk q => ⟨q.1, va_T.moved (u := U) (U := U.calling g mk a) (Vm.Alike.refl U.vm) q.2⟩
def gS (adK adV : Nat → Nat) (U : State) : Prop := va_Z "java/lang/String" "COMPACT_STRINGS" "Z" (.int 1) nF U U.heap ∧ vk_S 1 [10] [lNm] adK adV nF U U.heap
theorem blS {us : List Value} {adK adV : Nat → Nat} : FrameBlind (va_Pc us (gS adK adV)) := fun a U g mk q => ⟨q.1, va_Z.moved (u := U) (U := U.calling g mk a) (Vm.Alike.refl U.vm) q.2.1, vk_S.moved (u := U) (U := U.calling g mk a) (Vm.Alike.refl U.vm) q.2.2⟩
theorem gA_at {A : Nat → Prop} {s U : State} {H : Heap} {locs : List Loc} {v : Nat} (h : va_T .byte v 10 (fun j => .int (lNm.getD j 0)) A s s.heap) (hS : va_S A s.heap H locs) (hU : U.heap = H) (hW : s.WarmedH U.vm) : gA v U := by
  unfold gA
  rw [hU]
  exact ((h.kept hS.2.1).moved hW.alike).narrow (fun _ q => q.elim)
theorem gS_at {A : Nat → Prop} {s U : State} {H : Heap} {locs : List Loc} {adK adV : Nat → Nat} (h : va_Z "java/lang/String" "COMPACT_STRINGS" "Z" (.int 1) A s s.heap ∧ vk_S 1 [10] [lNm] adK adV A s s.heap) (hS : va_S A s.heap H locs) (hU : U.heap = H) (hW : s.WarmedH U.vm) : gS adK adV U := by
  unfold gS
  rw [hU]
  exact ⟨((h.1.kept hS.2.1).moved hW.alike).narrow (fun _ q => q.elim), ((h.2.kept hS.2.1).moved hW.alike).narrow (fun _ q => q.elim)⟩
theorem ch_of {ch : Int32} (h1 : 97 ≤ ch) (h2 : ch ≤ 122) : ∃ n : Nat, n < 26 ∧ ch = nI (97 + n) := by
  have a := Int32.le_iff_toInt_le.mp h1
  have b := Int32.le_iff_toInt_le.mp h2
  rw [show (97 : Int32).toInt = 97 by decide] at a
  rw [show (122 : Int32).toInt = 122 by decide] at b
  refine ⟨(ch.toInt - 97).toNat, by omega, Int32.toInt_inj.mp ?_⟩
  rw [nI_toInt (by omega)]
  omega
theorem ch_b : ∀ n, n < 26 → (nI (97 + n)).toInt8.toInt32 = nI (97 + n) := by decide +kernel
theorem ch_lo : ∀ n, n < 26 → ¬ nI (97 + n) < 0 := by decide +kernel
theorem ch_hi : ∀ n, n < 26 → ¬ (255 : Int32) < nI (97 + n) := by decide +kernel
variable {l : Launch}
theorem j_ce {n : Nat} (hn : n < 26) : Met l yJ1_canEncode_9a6ad (wsJ yJ1_canEncode_9a6ad cJ1_canEncode_9a6ad 1 (some .boolean)) (rmP 1) (va_Pc [.int (nI (97 + n))] (fun _ => True)) (qI (1)) 0 0 nF := by
  refine Met.ofW (cc := cJ1_canEncode_9a6ad) (maxL := 1) (ret := some .boolean) (by decide) rfl ?_
  intro p e s m args below meth c s₁ B hml hv
  obtain ⟨rfl, hg⟩ := hv
  have hx := B.exec
  have hb := B.bytes
  have hts : ∀ w ∈ wG, w.before [.int (nI (97 + n))].toArray s = true := fun w hw => atoms_spec (ws := wsJ yJ1_canEncode_9a6ad cJ1_canEncode_9a6ad 1 (some .boolean)) B.pre w (List.mem_cons_of_mem _ hw)
  have hown : s.vm.findClass yJ1_canEncode_9a6ad.cls = some m.cls := findClass_of_methodNamed B.named
  have hS : va_S nF s.heap s.heap [] := va_S.rf
  rw [lg_entry_eq]
  have hl := lv_entry [.int (nI (97 + n))] (n := 1) (Nat.le_of_ble_eq_true rfl)
  generalize (lg_sl [.int (nI (97 + n))] ++ List.replicate (1 - (lg_sl [.int (nI (97 + n))]).length) Slot.unset).toArray = ls at hl ⊢
  have hl : lv_has ls 1 [(0, .int (nI (97 + n)))] := hl
  refine lv_iload_n hx hb (show decode cJ1_canEncode_9a6ad 0 = .ok (.iload_n 0, 1) by decide +kernel) rfl (lv_at hl 0 rfl) ?_
  refine lv_if_lt (tgt := 15) hx hb (show decode cJ1_canEncode_9a6ad 1 = .ok (.ifCond .lt 14, 3) by decide +kernel) (by decide) (fun q => absurd q (ch_lo n hn)) (fun _ => ?_)
  refine lv_iload_n hx hb (show decode cJ1_canEncode_9a6ad 4 = .ok (.iload_n 0, 1) by decide +kernel) rfl (lv_at hl 0 rfl) ?_
  refine lv_sipush (v := 255) hx hb (show decode cJ1_canEncode_9a6ad 5 = .ok (.sipush 255, 3) by decide +kernel) (by decide) ?_
  refine lv_icmp_gt (tgt := 15) hx hb (show decode cJ1_canEncode_9a6ad 8 = .ok (.if_icmp .gt 7, 3) by decide +kernel) (by decide) (fun q => absurd q (ch_hi n hn)) (fun _ => ?_)
  refine lv_iconst (v := 1) hx hb (show decode cJ1_canEncode_9a6ad 11 = .ok (.iconst 1, 1) by decide +kernel) (by decide) ?_
  refine lv_goto (tgt := 16) hx hb (show decode cJ1_canEncode_9a6ad 12 = .ok (.goto 4, 3) by decide +kernel) (by decide) ?_
  exact W.zret (ty := .boolean) hx hb B.returns rfl (fun t ht hW => ⟨rfl, hS.F ht⟩) hS.2.2 (show decode cJ1_canEncode_9a6ad 16 = .ok (.ireturn, 1) by decide +kernel)
theorem j_ioc {n v : Nat} (hn : n < 26) : Met l yJ1_indexOfChar_4cfef (wsJ yJ1_indexOfChar_4cfef cJ1_indexOfChar_4cfef 6 (some .int)) (rmP 1) (va_Pc [.ref v, .int (nI (97 + n)), .int 0, .int 10] (gA v)) (qI (ixF (nI (97 + n)) lNm 0)) 0 0 nF := by
  refine Met.ofW (cc := cJ1_indexOfChar_4cfef) (maxL := 6) (ret := some .int) (by decide) rfl ?_
  intro p e s m args below meth c s₁ B hml hv
  obtain ⟨rfl, hg⟩ := hv
  have hx := B.exec
  have hb := B.bytes
  have hts : ∀ w ∈ wG, w.before [.ref v, .int (nI (97 + n)), .int 0, .int 10].toArray s = true := fun w hw => atoms_spec (ws := wsJ yJ1_indexOfChar_4cfef cJ1_indexOfChar_4cfef 6 (some .int)) B.pre w (List.mem_cons_of_mem _ hw)
  have hown : s.vm.findClass yJ1_indexOfChar_4cfef.cls = some m.cls := findClass_of_methodNamed B.named
  have hS : va_S nF s.heap s.heap [] := va_S.rf
  rw [lg_entry_eq]
  have hl := lv_entry [.ref v, .int (nI (97 + n)), .int 0, .int 10] (n := 6) (Nat.le_of_ble_eq_true rfl)
  generalize (lg_sl [.ref v, .int (nI (97 + n)), .int 0, .int 10] ++ List.replicate (6 - (lg_sl [.ref v, .int (nI (97 + n)), .int 0, .int 10]).length) Slot.unset).toArray = ls at hl ⊢
  have hl : lv_has ls 6 [(0, .ref v), (1, .int (nI (97 + n))), (2, .int 0), (3, .int 10)] := hl
  refine lv_iload_n hx hb (show decode cJ1_indexOfChar_4cfef 0 = .ok (.iload_n 1, 1) by decide +kernel) rfl (lv_at hl 1 rfl) ?_
  refine lv_i2b hx hb (show decode cJ1_indexOfChar_4cfef 1 = .ok (.i2b, 1) by decide +kernel) (ch_b n hn) ?_
  refine lv_istore (lv' := [(4, .int (nI (97 + n))), (0, .ref v), (1, .int (nI (97 + n))), (2, .int 0), (3, .int 10)]) hx hb (show decode cJ1_indexOfChar_4cfef 2 = .ok (.istore 4, 2) by decide +kernel) hl (by decide) rfl (fun ls hl => ?_)
  refine lv_iload_n hx hb (show decode cJ1_indexOfChar_4cfef 4 = .ok (.iload_n 2, 1) by decide +kernel) rfl (lv_at hl 3 rfl) ?_
  refine lv_istore (lv' := [(5, .int (nI 0)), (4, .int (nI (97 + n))), (0, .ref v), (1, .int (nI (97 + n))), (2, .int 0), (3, .int 10)]) hx hb (show decode cJ1_indexOfChar_4cfef 5 = .ok (.istore 5, 2) by decide +kernel) hl (by decide) rfl (fun ls hl => ?_)
  have loop : ∀ (j k : Nat) (ls : Array Slot), k + j = 10 → lv_has ls 6 [(5, .int (nI k)), (4, .int (nI (97 + n))), (0, .ref v), (1, .int (nI (97 + n))), (2, .int 0), (3, .int 10)] → W p l e (rmP 1) s m [.ref v, .int (nI (97 + n)), .int 0, .int 10].toArray below meth c s.heap [] 0 0 (MQ below (qI (ixF (nI (97 + n)) (lNm.drop k) k)) [.ref v, .int (nI (97 + n)), .int 0, .int 10].toArray s 0 0 nF) (F0 m 7 ls []) := by
    intro j
    induction j with
    | zero =>
      intro k ls hk hl
      obtain rfl : k = 10 := by omega
      refine lv_iload hx hb (show decode cJ1_indexOfChar_4cfef 7 = .ok (.iload 5, 2) by decide +kernel) (lv_at hl 0 rfl) ?_
      refine lv_iload_n hx hb (show decode cJ1_indexOfChar_4cfef 9 = .ok (.iload_n 3, 1) by decide +kernel) rfl (lv_at hl 5 rfl) ?_
      refine lv_icmp_ge (tgt := 31) hx hb (show decode cJ1_indexOfChar_4cfef 10 = .ok (.if_icmp .ge 21, 3) by decide +kernel) (by decide) (fun _ => ?_) (fun q => absurd (by decide) q)
      refine lv_iconst (v := -1) hx hb (show decode cJ1_indexOfChar_4cfef 31 = .ok (.iconst (-1), 1) by decide +kernel) (by decide) ?_
      exact W.iret hx hb B.returns (fun t ht hW => ⟨rfl, hS.F ht⟩) hS.2.2 (show decode cJ1_indexOfChar_4cfef 32 = .ok (.ireturn, 1) by decide +kernel)
    | succ j ih =>
      intro k ls hk hl
      refine lv_iload hx hb (show decode cJ1_indexOfChar_4cfef 7 = .ok (.iload 5, 2) by decide +kernel) (lv_at hl 0 rfl) ?_
      refine lv_iload_n hx hb (show decode cJ1_indexOfChar_4cfef 9 = .ok (.iload_n 3, 1) by decide +kernel) rfl (lv_at hl 5 rfl) ?_
      refine lv_icmp_ge (tgt := 31) hx hb (show decode cJ1_indexOfChar_4cfef 10 = .ok (.if_icmp .ge 21, 3) by decide +kernel) (by decide) (fun q => absurd q (nI_ge (a := k) (b := 10) (by omega) (by omega))) (fun _ => ?_)
      refine lv_aload_n hx hb (show decode cJ1_indexOfChar_4cfef 13 = .ok (.aload_n 0, 1) by decide +kernel) rfl (lv_at hl 2 rfl) ?_
      refine lv_iload hx hb (show decode cJ1_indexOfChar_4cfef 14 = .ok (.iload 5, 2) by decide +kernel) (lv_at hl 0 rfl) ?_
      refine va_tb (v := .int (lNm.getD k 0)) hx hb hg hS (vp_in_nI (by omega) (by omega)) (by rw [nI_clamp (by omega)]) (show decode cJ1_indexOfChar_4cfef 16 = .ok (.baload, 1) by decide +kernel) ?_
      refine lv_iload hx hb (show decode cJ1_indexOfChar_4cfef 17 = .ok (.iload 4, 2) by decide +kernel) (lv_at hl 1 rfl) ?_
      have hlen : lNm.length = 10 := rfl
      have hdr : lNm.drop k = lNm.getD k 0 :: lNm.drop (k + 1) := by
        rw [List.getD_eq_getElem?_getD, List.getElem?_eq_getElem (by omega)]
        exact List.drop_eq_getElem_cons (by omega)
      rw [hdr, ixF]
      refine lv_icmp_ne (tgt := 25) hx hb (show decode cJ1_indexOfChar_4cfef 19 = .ok (.if_icmp .ne 6, 3) by decide +kernel) (by decide) (fun q => ?_) (fun q => ?_)
      · rw [if_neg q]
        refine lv_iinc (v := nI (k + 1)) (lv' := [(5, .int (nI (k + 1))), (4, .int (nI (97 + n))), (0, .ref v), (1, .int (nI (97 + n))), (2, .int 0), (3, .int 10)]) hx hb (show decode cJ1_indexOfChar_4cfef 25 = .ok (.iinc 5 1, 3) by decide +kernel) hl (k := 0) rfl (by rw [nI_succ]; rfl) (by decide) rfl (fun ls hl => ?_)
        refine lv_goto (tgt := 7) hx hb (show decode cJ1_indexOfChar_4cfef 28 = .ok (.goto (-21), 3) by decide +kernel) (by decide) ?_
        exact ih (k + 1) ls (by omega) hl
      · rw [if_pos q]
        refine lv_iload hx hb (show decode cJ1_indexOfChar_4cfef 22 = .ok (.iload 5, 2) by decide +kernel) (lv_at hl 0 rfl) ?_
        exact W.iret hx hb B.returns (fun t ht hW => ⟨rfl, hS.F ht⟩) hS.2.2 (show decode cJ1_indexOfChar_4cfef 24 = .ok (.ireturn, 1) by decide +kernel)
  exact loop 10 0 ls rfl hl
theorem j_l1 {n v : Nat} (hn : n < 26) : Met l yJ1_indexOf_4cfef (wsJ yJ1_indexOf_4cfef cJ1_indexOf_4cfef 4 (some .int)) (rmP 2) (va_Pc [.ref v, .int (nI (97 + n)), .int 0, .int 10] (gA v)) (qI (ixF (nI (97 + n)) lNm 0)) 0 0 nF := by
  refine Met.ofW (cc := cJ1_indexOf_4cfef) (maxL := 4) (ret := some .int) (by decide) rfl ?_
  intro p e s m args below meth c s₁ B hml hv
  obtain ⟨rfl, hg⟩ := hv
  have hx := B.exec
  have hb := B.bytes
  have hts : ∀ w ∈ wG, w.before [.ref v, .int (nI (97 + n)), .int 0, .int 10].toArray s = true := fun w hw => atoms_spec (ws := wsJ yJ1_indexOf_4cfef cJ1_indexOf_4cfef 4 (some .int)) B.pre w (List.mem_cons_of_mem _ hw)
  have hown : s.vm.findClass yJ1_indexOf_4cfef.cls = some m.cls := findClass_of_methodNamed B.named
  have hS : va_S nF s.heap s.heap [] := va_S.rf
  rw [lg_entry_eq]
  have hl := lv_entry [.ref v, .int (nI (97 + n)), .int 0, .int 10] (n := 4) (Nat.le_of_ble_eq_true rfl)
  generalize (lg_sl [.ref v, .int (nI (97 + n)), .int 0, .int 10] ++ List.replicate (4 - (lg_sl [.ref v, .int (nI (97 + n)), .int 0, .int 10]).length) Slot.unset).toArray = ls at hl ⊢
  have hl : lv_has ls 4 [(0, .ref v), (1, .int (nI (97 + n))), (2, .int 0), (3, .int 10)] := hl
  refine lv_iload_n hx hb (show decode cJ1_indexOf_4cfef 0 = .ok (.iload_n 1, 1) by decide +kernel) rfl (lv_at hl 1 rfl) ?_
  refine q_call (va_runS (As := [.int (nI (97 + n))]) (rest := []) ⟨hx, hb, hml, hown, hts⟩ (j_ce hn) ⟨jCB hts jc_ce jn_L jl_ce jd_ce (Nat.le_of_ble_eq_true rfl) (Nat.le_of_ble_eq_true rfl) (Nat.le_of_ble_eq_true rfl), hts _ jt_ce⟩ ⟨blT, fun U hU hW => ⟨rfl, trivial⟩⟩ rfl rfl hl.1 rfl (lv_room (Nat.le_of_ble_eq_true rfl)) (show decode cJ1_indexOf_4cfef 1 = .ok (.invokestatic 88, 3) by decide +kernel) ⟨(Nat.le_of_ble_eq_true rfl), (Nat.le_of_ble_eq_true rfl)⟩) hS (fun H1 locs1 _ _ hS => ?_)
  refine lv_if_ne (tgt := 9) hx hb (show decode cJ1_indexOf_4cfef 4 = .ok (.ifCond .ne 5, 3) by decide +kernel) (by decide) (fun _ => ?_) (fun q => absurd q (by decide))
  refine lv_iload_n hx hb (show decode cJ1_indexOf_4cfef 9 = .ok (.iload_n 2, 1) by decide +kernel) rfl (lv_at hl 2 rfl) ?_
  refine lv_iconst (v := 0) hx hb (show decode cJ1_indexOf_4cfef 10 = .ok (.iconst 0, 1) by decide +kernel) (by decide) ?_
  refine va_mmax hx hb (hml.trans hl.1.symm) hown (hts _ jlm_max) (hts _ jtm_max) (hts _ jn_M) (hts _ jcm_max) (Nat.le_of_ble_eq_true rfl) (Nat.le_of_ble_eq_true rfl) (Nat.le_of_ble_eq_true rfl) (Nat.le_of_ble_eq_true rfl) (show decode cJ1_indexOf_4cfef 11 = .ok (.invokestatic 92, 3) by decide +kernel) ?_
  refine lv_istore_n (lv' := [(2, .int 0), (0, .ref v), (1, .int (nI (97 + n))), (3, .int 10)]) hx hb (show decode cJ1_indexOf_4cfef 14 = .ok (.istore_n 2, 1) by decide +kernel) rfl hl (by decide) rfl (fun ls hl => ?_)
  refine lv_iload_n hx hb (show decode cJ1_indexOf_4cfef 15 = .ok (.iload_n 3, 1) by decide +kernel) rfl (lv_at hl 3 rfl) ?_
  refine lv_aload_n hx hb (show decode cJ1_indexOf_4cfef 16 = .ok (.aload_n 0, 1) by decide +kernel) rfl (lv_at hl 1 rfl) ?_
  refine va_tlen (v := 10) hx hb hg hS (by decide) (show decode cJ1_indexOf_4cfef 17 = .ok (.arraylength, 1) by decide +kernel) ?_
  refine va_mmin hx hb (hml.trans hl.1.symm) hown (hts _ jlm_min) (hts _ jtm_min) (hts _ jn_M) (hts _ jcm_min) (Nat.le_of_ble_eq_true rfl) (Nat.le_of_ble_eq_true rfl) (Nat.le_of_ble_eq_true rfl) (Nat.le_of_ble_eq_true rfl) (show decode cJ1_indexOf_4cfef 18 = .ok (.invokestatic 38, 3) by decide +kernel) ?_
  refine lv_istore_n (lv' := [(3, .int 10), (2, .int 0), (0, .ref v), (1, .int (nI (97 + n)))]) hx hb (show decode cJ1_indexOf_4cfef 21 = .ok (.istore_n 3, 1) by decide +kernel) rfl hl (by decide) rfl (fun ls hl => ?_)
  refine lv_iload_n hx hb (show decode cJ1_indexOf_4cfef 22 = .ok (.iload_n 2, 1) by decide +kernel) rfl (lv_at hl 1 rfl) ?_
  refine lv_iload_n hx hb (show decode cJ1_indexOf_4cfef 23 = .ok (.iload_n 3, 1) by decide +kernel) rfl (lv_at hl 0 rfl) ?_
  refine lv_icmp_lt (tgt := 29) hx hb (show decode cJ1_indexOf_4cfef 24 = .ok (.if_icmp .lt 5, 3) by decide +kernel) (by decide) (fun _ => ?_) (fun q => absurd (by decide) q)
  refine lv_aload_n hx hb (show decode cJ1_indexOf_4cfef 29 = .ok (.aload_n 0, 1) by decide +kernel) rfl (lv_at hl 2 rfl) ?_
  refine lv_iload_n hx hb (show decode cJ1_indexOf_4cfef 30 = .ok (.iload_n 1, 1) by decide +kernel) rfl (lv_at hl 3 rfl) ?_
  refine lv_iload_n hx hb (show decode cJ1_indexOf_4cfef 31 = .ok (.iload_n 2, 1) by decide +kernel) rfl (lv_at hl 1 rfl) ?_
  refine lv_iload_n hx hb (show decode cJ1_indexOf_4cfef 32 = .ok (.iload_n 3, 1) by decide +kernel) rfl (lv_at hl 0 rfl) ?_
  refine q_call (va_runS (As := [.ref v, .int (nI (97 + n)), .int 0, .int 10]) (rest := []) ⟨hx, hb, hml, hown, hts⟩ (j_ioc hn) ⟨jCB hts jc_ioc jn_L jl_ioc jd_ioc (Nat.le_of_ble_eq_true rfl) (Nat.le_of_ble_eq_true rfl) (Nat.le_of_ble_eq_true rfl), hts _ jt_ioc⟩ ⟨blA, fun U hU hW => ⟨rfl, gA_at hg hS hU hW⟩⟩ rfl rfl hl.1 rfl (lv_room (Nat.le_of_ble_eq_true rfl)) (show decode cJ1_indexOf_4cfef 33 = .ok (.invokestatic 95, 3) by decide +kernel) ⟨(Nat.le_of_ble_eq_true rfl), (Nat.le_of_ble_eq_true rfl)⟩) hS (fun H1 locs1 _ _ hS => ?_)
  exact W.iret hx hb B.returns (fun t ht hW => ⟨rfl, hS.F ht⟩) hS.2.2 (show decode cJ1_indexOf_4cfef 36 = .ok (.ireturn, 1) by decide +kernel)
theorem j_cod {adK adV : Nat → Nat} : Met l yJ0_coder_7d493 (wsJ yJ0_coder_7d493 cJ0_coder_7d493 1 (some .byte)) (rmP 1) (va_Pc [.ref (adK 0)] (gS adK adV)) (qI (0)) 0 0 nF := by
  refine Met.ofW (cc := cJ0_coder_7d493) (maxL := 1) (ret := some .byte) (by decide) rfl ?_
  intro p e s m args below meth c s₁ B hml hv
  obtain ⟨rfl, hg⟩ := hv
  have hx := B.exec
  have hb := B.bytes
  have hts : ∀ w ∈ wG, w.before [.ref (adK 0)].toArray s = true := fun w hw => atoms_spec (ws := wsJ yJ0_coder_7d493 cJ0_coder_7d493 1 (some .byte)) B.pre w (List.mem_cons_of_mem _ hw)
  have hown : s.vm.findClass yJ0_coder_7d493.cls = some m.cls := findClass_of_methodNamed B.named
  have hS : va_S nF s.heap s.heap [] := va_S.rf
  rw [lg_entry_eq]
  have hl := lv_entry [.ref (adK 0)] (n := 1) (Nat.le_of_ble_eq_true rfl)
  generalize (lg_sl [.ref (adK 0)] ++ List.replicate (1 - (lg_sl [.ref (adK 0)]).length) Slot.unset).toArray = ls at hl ⊢
  have hl : lv_has ls 1 [(0, .ref (adK 0))] := hl
  refine va_gets hx hb hg.1 hS hown (hts _ jf_cs) (fun _ q => q) (show decode cJ0_coder_7d493 0 = .ok (.getstatic 38, 3) by decide +kernel) ?_
  refine lv_if_eq (tgt := 13) hx hb (show decode cJ0_coder_7d493 3 = .ok (.ifCond .eq 10, 3) by decide +kernel) (by decide) (fun q => absurd q (by decide)) (fun _ => ?_)
  refine lv_aload_n hx hb (show decode cJ0_coder_7d493 6 = .ok (.aload_n 0, 1) by decide +kernel) rfl (lv_at hl 0 rfl) ?_
  refine vk_getf hx hb (hg.2.1 0 (by decide)).2.1 hS hown (hts _ jf_co) (fun _ q => q) (show decode cJ0_coder_7d493 7 = .ok (.getfield 15, 3) by decide +kernel) ?_
  refine lv_goto (tgt := 14) hx hb (show decode cJ0_coder_7d493 10 = .ok (.goto 4, 3) by decide +kernel) (by decide) ?_
  exact W.zret (ty := .byte) hx hb B.returns rfl (fun t ht hW => ⟨rfl, hS.F ht⟩) hS.2.2 (show decode cJ0_coder_7d493 14 = .ok (.ireturn, 1) by decide +kernel)
theorem j_isl {adK adV : Nat → Nat} : Met l yJ0_isLatin1_aae02 (wsJ yJ0_isLatin1_aae02 cJ0_isLatin1_aae02 1 (some .boolean)) (rmP 1) (va_Pc [.ref (adK 0)] (gS adK adV)) (qI (1)) 0 0 nF := by
  refine Met.ofW (cc := cJ0_isLatin1_aae02) (maxL := 1) (ret := some .boolean) (by decide) rfl ?_
  intro p e s m args below meth c s₁ B hml hv
  obtain ⟨rfl, hg⟩ := hv
  have hx := B.exec
  have hb := B.bytes
  have hts : ∀ w ∈ wG, w.before [.ref (adK 0)].toArray s = true := fun w hw => atoms_spec (ws := wsJ yJ0_isLatin1_aae02 cJ0_isLatin1_aae02 1 (some .boolean)) B.pre w (List.mem_cons_of_mem _ hw)
  have hown : s.vm.findClass yJ0_isLatin1_aae02.cls = some m.cls := findClass_of_methodNamed B.named
  have hS : va_S nF s.heap s.heap [] := va_S.rf
  rw [lg_entry_eq]
  have hl := lv_entry [.ref (adK 0)] (n := 1) (Nat.le_of_ble_eq_true rfl)
  generalize (lg_sl [.ref (adK 0)] ++ List.replicate (1 - (lg_sl [.ref (adK 0)]).length) Slot.unset).toArray = ls at hl ⊢
  have hl : lv_has ls 1 [(0, .ref (adK 0))] := hl
  refine va_gets hx hb hg.1 hS hown (hts _ jf_cs) (fun _ q => q) (show decode cJ0_isLatin1_aae02 0 = .ok (.getstatic 38, 3) by decide +kernel) ?_
  refine lv_if_eq (tgt := 17) hx hb (show decode cJ0_isLatin1_aae02 3 = .ok (.ifCond .eq 14, 3) by decide +kernel) (by decide) (fun q => absurd q (by decide)) (fun _ => ?_)
  refine lv_aload_n hx hb (show decode cJ0_isLatin1_aae02 6 = .ok (.aload_n 0, 1) by decide +kernel) rfl (lv_at hl 0 rfl) ?_
  refine vk_getf hx hb (hg.2.1 0 (by decide)).2.1 hS hown (hts _ jf_co) (fun _ q => q) (show decode cJ0_isLatin1_aae02 7 = .ok (.getfield 15, 3) by decide +kernel) ?_
  refine lv_if_ne (tgt := 17) hx hb (show decode cJ0_isLatin1_aae02 10 = .ok (.ifCond .ne 7, 3) by decide +kernel) (by decide) (fun q => absurd rfl q) (fun _ => ?_)
  refine lv_iconst (v := 1) hx hb (show decode cJ0_isLatin1_aae02 13 = .ok (.iconst 1, 1) by decide +kernel) (by decide) ?_
  refine lv_goto (tgt := 18) hx hb (show decode cJ0_isLatin1_aae02 14 = .ok (.goto 4, 3) by decide +kernel) (by decide) ?_
  exact W.zret (ty := .boolean) hx hb B.returns rfl (fun t ht hW => ⟨rfl, hS.F ht⟩) hS.2.2 (show decode cJ0_isLatin1_aae02 18 = .ok (.ireturn, 1) by decide +kernel)
theorem j_len {adK adV : Nat → Nat} : Met l yJ0_length_8abf5 (wsJ yJ0_length_8abf5 cJ0_length_8abf5 1 (some .int)) (rmP 2) (va_Pc [.ref (adK 0)] (gS adK adV)) (qI (10)) 0 0 nF := by
  refine Met.ofW (cc := cJ0_length_8abf5) (maxL := 1) (ret := some .int) (by decide) rfl ?_
  intro p e s m args below meth c s₁ B hml hv
  obtain ⟨rfl, hg⟩ := hv
  have hx := B.exec
  have hb := B.bytes
  have hts : ∀ w ∈ wG, w.before [.ref (adK 0)].toArray s = true := fun w hw => atoms_spec (ws := wsJ yJ0_length_8abf5 cJ0_length_8abf5 1 (some .int)) B.pre w (List.mem_cons_of_mem _ hw)
  have hown : s.vm.findClass yJ0_length_8abf5.cls = some m.cls := findClass_of_methodNamed B.named
  have hS : va_S nF s.heap s.heap [] := va_S.rf
  rw [lg_entry_eq]
  have hl := lv_entry [.ref (adK 0)] (n := 1) (Nat.le_of_ble_eq_true rfl)
  generalize (lg_sl [.ref (adK 0)] ++ List.replicate (1 - (lg_sl [.ref (adK 0)]).length) Slot.unset).toArray = ls at hl ⊢
  have hl : lv_has ls 1 [(0, .ref (adK 0))] := hl
  refine lv_aload_n hx hb (show decode cJ0_length_8abf5 0 = .ok (.aload_n 0, 1) by decide +kernel) rfl (lv_at hl 0 rfl) ?_
  refine vk_getf hx hb (hg.2.1 0 (by decide)).2.2.1 hS hown (hts _ jf_va) (fun _ q => q) (show decode cJ0_length_8abf5 1 = .ok (.getfield 9, 3) by decide +kernel) ?_
  refine va_tlen (v := 10) hx hb (hg.2.1 0 (by decide)).2.2.2 hS (by decide) (show decode cJ0_length_8abf5 4 = .ok (.arraylength, 1) by decide +kernel) ?_
  refine lv_aload_n hx hb (show decode cJ0_length_8abf5 5 = .ok (.aload_n 0, 1) by decide +kernel) rfl (lv_at hl 0 rfl) ?_
  refine q_call (va_runV (C := "java/lang/String") (As := []) (rest := [.int 10]) ⟨hx, hb, hml, hown, hts⟩ j_cod ⟨jCB hts jc_cod jn_S jl_cod jd_cod (Nat.le_of_ble_eq_true rfl) (Nat.le_of_ble_eq_true rfl) (Nat.le_of_ble_eq_true rfl), hts _ ji_cod, hts _ js_cod⟩ ⟨blS, vk_recv hg.2 (by decide) hS, fun U hU hW => ⟨rfl, gS_at hg hS hU hW⟩⟩ rfl rfl hl.1 rfl (lv_room (Nat.le_of_ble_eq_true rfl)) (show decode cJ0_length_8abf5 6 = .ok (.invokevirtual 335, 3) by decide +kernel) ⟨(Nat.le_of_ble_eq_true rfl), (Nat.le_of_ble_eq_true rfl)⟩) hS (fun H1 locs1 _ _ hS => ?_)
  refine lv_ishr hx hb (show decode cJ0_length_8abf5 9 = .ok (.ishr, 1) by decide +kernel) ?_
  exact W.iret hx hb B.returns (fun t ht hW => ⟨rfl, hS.F ht⟩) hS.2.2 (show decode cJ0_length_8abf5 10 = .ok (.ireturn, 1) by decide +kernel)
theorem j_io2 {n : Nat} {adK adV : Nat → Nat} (hn : n < 26) : Met l yJ0_indexOf_7cf53 (wsJ yJ0_indexOf_7cf53 cJ0_indexOf_7cf53 3 (some .int)) (rmP 3) (va_Pc [.ref (adK 0), .int (nI (97 + n)), .int 0] (gS adK adV)) (qI (ixF (nI (97 + n)) lNm 0)) 0 0 nF := by
  refine Met.ofW (cc := cJ0_indexOf_7cf53) (maxL := 3) (ret := some .int) (by decide) rfl ?_
  intro p e s m args below meth c s₁ B hml hv
  obtain ⟨rfl, hg⟩ := hv
  have hx := B.exec
  have hb := B.bytes
  have hts : ∀ w ∈ wG, w.before [.ref (adK 0), .int (nI (97 + n)), .int 0].toArray s = true := fun w hw => atoms_spec (ws := wsJ yJ0_indexOf_7cf53 cJ0_indexOf_7cf53 3 (some .int)) B.pre w (List.mem_cons_of_mem _ hw)
  have hown : s.vm.findClass yJ0_indexOf_7cf53.cls = some m.cls := findClass_of_methodNamed B.named
  have hS : va_S nF s.heap s.heap [] := va_S.rf
  rw [lg_entry_eq]
  have hl := lv_entry [.ref (adK 0), .int (nI (97 + n)), .int 0] (n := 3) (Nat.le_of_ble_eq_true rfl)
  generalize (lg_sl [.ref (adK 0), .int (nI (97 + n)), .int 0] ++ List.replicate (3 - (lg_sl [.ref (adK 0), .int (nI (97 + n)), .int 0]).length) Slot.unset).toArray = ls at hl ⊢
  have hl : lv_has ls 3 [(0, .ref (adK 0)), (1, .int (nI (97 + n))), (2, .int 0)] := hl
  refine lv_aload_n hx hb (show decode cJ0_indexOf_7cf53 0 = .ok (.aload_n 0, 1) by decide +kernel) rfl (lv_at hl 0 rfl) ?_
  refine q_call (va_runV (C := "java/lang/String") (As := []) (rest := []) ⟨hx, hb, hml, hown, hts⟩ j_isl ⟨jCB hts jc_isl jn_S jl_isl jd_isl (Nat.le_of_ble_eq_true rfl) (Nat.le_of_ble_eq_true rfl) (Nat.le_of_ble_eq_true rfl), hts _ ji_isl, hts _ js_isl⟩ ⟨blS, vk_recv hg.2 (by decide) hS, fun U hU hW => ⟨rfl, gS_at hg hS hU hW⟩⟩ rfl rfl hl.1 rfl (lv_room (Nat.le_of_ble_eq_true rfl)) (show decode cJ0_indexOf_7cf53 1 = .ok (.invokevirtual 492, 3) by decide +kernel) ⟨(Nat.le_of_ble_eq_true rfl), (Nat.le_of_ble_eq_true rfl)⟩) hS (fun H1 locs1 _ _ hS => ?_)
  refine lv_if_eq (tgt := 23) hx hb (show decode cJ0_indexOf_7cf53 4 = .ok (.ifCond .eq 19, 3) by decide +kernel) (by decide) (fun q => absurd q (by decide)) (fun _ => ?_)
  refine lv_aload_n hx hb (show decode cJ0_indexOf_7cf53 7 = .ok (.aload_n 0, 1) by decide +kernel) rfl (lv_at hl 0 rfl) ?_
  refine vk_getf hx hb (hg.2.1 0 (by decide)).2.2.1 hS hown (hts _ jf_va) (fun _ q => q) (show decode cJ0_indexOf_7cf53 8 = .ok (.getfield 9, 3) by decide +kernel) ?_
  refine lv_iload_n hx hb (show decode cJ0_indexOf_7cf53 11 = .ok (.iload_n 1, 1) by decide +kernel) rfl (lv_at hl 1 rfl) ?_
  refine lv_iload_n hx hb (show decode cJ0_indexOf_7cf53 12 = .ok (.iload_n 2, 1) by decide +kernel) rfl (lv_at hl 2 rfl) ?_
  refine lv_aload_n hx hb (show decode cJ0_indexOf_7cf53 13 = .ok (.aload_n 0, 1) by decide +kernel) rfl (lv_at hl 0 rfl) ?_
  refine q_call (va_runV (C := "java/lang/String") (As := []) (rest := [.int 0, .int (nI (97 + n)), .ref (adV 0)]) ⟨hx, hb, hml, hown, hts⟩ j_len ⟨jCB hts jc_len jn_S jl_len jd_len (Nat.le_of_ble_eq_true rfl) (Nat.le_of_ble_eq_true rfl) (Nat.le_of_ble_eq_true rfl), hts _ ji_len, hts _ js_len⟩ ⟨blS, vk_recv hg.2 (by decide) hS, fun U hU hW => ⟨rfl, gS_at hg hS hU hW⟩⟩ rfl rfl hl.1 rfl (lv_room (Nat.le_of_ble_eq_true rfl)) (show decode cJ0_indexOf_7cf53 14 = .ok (.invokevirtual 505, 3) by decide +kernel) ⟨(Nat.le_of_ble_eq_true rfl), (Nat.le_of_ble_eq_true rfl)⟩) hS (fun H1 locs1 _ _ hS => ?_)
  refine q_call (va_runS (As := [.ref (adV 0), .int (nI (97 + n)), .int 0, .int 10]) (rest := []) ⟨hx, hb, hml, hown, hts⟩ (j_l1 hn) ⟨jCB hts jc_l1 jn_L jl_l1 jd_l1 (Nat.le_of_ble_eq_true rfl) (Nat.le_of_ble_eq_true rfl) (Nat.le_of_ble_eq_true rfl), hts _ jt_l1⟩ ⟨blA, fun U hU hW => ⟨rfl, gA_at (hg.2.1 0 (by decide)).2.2.2 hS hU hW⟩⟩ rfl rfl hl.1 rfl (lv_room (Nat.le_of_ble_eq_true rfl)) (show decode cJ0_indexOf_7cf53 17 = .ok (.invokestatic 637, 3) by decide +kernel) ⟨(Nat.le_of_ble_eq_true rfl), (Nat.le_of_ble_eq_true rfl)⟩) hS (fun H1 locs1 _ _ hS => ?_)
  refine lv_goto (tgt := 36) hx hb (show decode cJ0_indexOf_7cf53 20 = .ok (.goto 16, 3) by decide +kernel) (by decide) ?_
  exact W.iret hx hb B.returns (fun t ht hW => ⟨rfl, hS.F ht⟩) hS.2.2 (show decode cJ0_indexOf_7cf53 36 = .ok (.ireturn, 1) by decide +kernel)
theorem j_io1 {n : Nat} {adK adV : Nat → Nat} (hn : n < 26) : Met l yJ0_indexOf_0f7a4 (wsJ yJ0_indexOf_0f7a4 cJ0_indexOf_0f7a4 2 (some .int)) (rmP 4) (va_Pc [.ref (adK 0), .int (nI (97 + n))] (gS adK adV)) (qI (ixF (nI (97 + n)) lNm 0)) 0 0 nF := by
  refine Met.ofW (cc := cJ0_indexOf_0f7a4) (maxL := 2) (ret := some .int) (by decide) rfl ?_
  intro p e s m args below meth c s₁ B hml hv
  obtain ⟨rfl, hg⟩ := hv
  have hx := B.exec
  have hb := B.bytes
  have hts : ∀ w ∈ wG, w.before [.ref (adK 0), .int (nI (97 + n))].toArray s = true := fun w hw => atoms_spec (ws := wsJ yJ0_indexOf_0f7a4 cJ0_indexOf_0f7a4 2 (some .int)) B.pre w (List.mem_cons_of_mem _ hw)
  have hown : s.vm.findClass yJ0_indexOf_0f7a4.cls = some m.cls := findClass_of_methodNamed B.named
  have hS : va_S nF s.heap s.heap [] := va_S.rf
  rw [lg_entry_eq]
  have hl := lv_entry [.ref (adK 0), .int (nI (97 + n))] (n := 2) (Nat.le_of_ble_eq_true rfl)
  generalize (lg_sl [.ref (adK 0), .int (nI (97 + n))] ++ List.replicate (2 - (lg_sl [.ref (adK 0), .int (nI (97 + n))]).length) Slot.unset).toArray = ls at hl ⊢
  have hl : lv_has ls 2 [(0, .ref (adK 0)), (1, .int (nI (97 + n)))] := hl
  refine lv_aload_n hx hb (show decode cJ0_indexOf_0f7a4 0 = .ok (.aload_n 0, 1) by decide +kernel) rfl (lv_at hl 0 rfl) ?_
  refine lv_iload_n hx hb (show decode cJ0_indexOf_0f7a4 1 = .ok (.iload_n 1, 1) by decide +kernel) rfl (lv_at hl 1 rfl) ?_
  refine lv_iconst (v := 0) hx hb (show decode cJ0_indexOf_0f7a4 2 = .ok (.iconst 0, 1) by decide +kernel) (by decide) ?_
  refine q_call (va_runV (C := "java/lang/String") (As := [.int (nI (97 + n)), .int 0]) (rest := []) ⟨hx, hb, hml, hown, hts⟩ (j_io2 hn) ⟨jCB hts jc_io2 jn_S jl_io2 jd_io2 (Nat.le_of_ble_eq_true rfl) (Nat.le_of_ble_eq_true rfl) (Nat.le_of_ble_eq_true rfl), hts _ ji_io2, hts _ js_io2⟩ ⟨blS, vk_recv hg.2 (by decide) hS, fun U hU hW => ⟨rfl, gS_at hg hS hU hW⟩⟩ rfl rfl hl.1 rfl (lv_room (Nat.le_of_ble_eq_true rfl)) (show decode cJ0_indexOf_0f7a4 3 = .ok (.invokevirtual 633, 3) by decide +kernel) ⟨(Nat.le_of_ble_eq_true rfl), (Nat.le_of_ble_eq_true rfl)⟩) hS (fun H1 locs1 _ _ hS => ?_)
  exact W.iret hx hb B.returns (fun t ht hW => ⟨rfl, hS.F ht⟩) hS.2.2 (show decode cJ0_indexOf_0f7a4 6 = .ok (.ireturn, 1) by decide +kernel)
/-- the four instructions of a name's place -/
theorem s_idx {nL i pc : Nat} {cc : ByteArray} {ini : Bool} {ii : Fin 4} (d0 : decode cc pc = .ok (.ldc 85, 2)) (d1 : decode cc (pc + 2) = .ok (.iload_n ii, 1)) (hi : (ii : Nat) = i) (d2 : decode cc (pc + 2 + 1) = .ok (.i2c, 1)) (d3 : decode cc (pc + 2 + 1 + 1) = .ok (.invokevirtual 87, 3)) : SndF "SameStar$Tape" cc nL ini pc (oIdx (pc + 2 + 1 + 1 + 3) i) := by
  intro p l e R s m args below meth c D tys A H0 w0 Q hx f pc' f' hg k
  intro H locs cells slots ls st ws hP hD hS hX hH hL hs hc hk
  obtain ⟨a, b, adK, adV, z1, t1, z2, t2, z3, z4, z5⟩ := hx.2.2.2.2.2.2.2.2.2.1.2.1
  have hH0 := hx.2.2.2.2.2.2.2.2.2.1.2.2.1
  have hrm := hx.2.2.2.2.2.2.2.2.2.1.2.2.2
  subst hH0
  unfold oIdx at hg
  split at hg
  · rename_i x hxi
    split at hg
    · rename_i hin
      cases hg
      obtain ⟨n, hn, rfl⟩ := ch_of hin.1 hin.2.1
      obtain ⟨-, u, h1, h2⟩ := hL.2.2 _ _ hxi
      cases h2
      have hcat : (st.map fun v => v.category).sum ≤ 8 := by
        have e1 := hs.len
        have e2 := cat_le st
        omega
      refine va_ldcS hx.1 hx.2.1 hx.2.2.2.1 z5 d0 ?_
      refine lv_iload_n hx.1 hx.2.1 d1 hi h1 ?_
      refine lv_i2c (v := nI (97 + n)) hx.1 hx.2.1 d2 ((show ∀ n, n < 26 → ((nI (97 + n)).toUInt32 % 65536).toInt32 = nI (97 + n) by decide +kernel) n hn) ?_
      refine q_call (va_runV (C := "java/lang/String") (As := [.int (nI (97 + n))]) (rest := st) ⟨hx.1, hx.2.1, hx.2.2.1, hx.2.2.2.1, hx.2.2.2.2.1⟩ (j_io1 hn) ⟨jCB hx.2.2.2.2.1 jc_io1 jn_S jl_io1 jd_io1 (by omega) (by omega) (Nat.le_of_ble_eq_true rfl), hx.2.2.2.2.1 _ ji_io1, hx.2.2.2.2.1 _ js_io1⟩ ⟨blS, vk_recv z4 (by decide) hS, fun U hU hW => ⟨rfl, gS_at ⟨z3, z4⟩ hS hU hW⟩⟩ rfl rfl hL.1 rfl (lv_room hcat) d3 ⟨by omega, by omega⟩) hS (fun H1 locs1 hz hkq hS => ?_)
      exact k H1 locs1 cells slots ls _ ws (hP.kept (fun k x hk => hkq _ (hP k x hk).lt)) hD hS hX hH hL ⟨_, _, rfl, rfl, hs⟩ hc hk
    · cases hg
  · cases hg
