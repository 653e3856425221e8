/-! THE START -/
set_option maxRecDepth 20000 in
theorem lk_98 : (Jvm.Cond.initialized "SameStar") ∈ wG := tq_1 (List.mem_of_getElem? (i := 1) rfl) rfl
set_option maxRecDepth 20000 in
theorem lk_109 : (Jvm.Cond.initialized "SameStarModel") ∈ wG := tq_1 (List.mem_of_getElem? (i := 12) rfl) rfl
set_option maxRecDepth 20000 in
theorem lk_121 : (Jvm.Cond.classLink "SameStarLaw" (7 : Nat) "SameStar") ∈ wG := tq_1 (List.mem_of_getElem? (i := 24) rfl) rfl
set_option maxRecDepth 20000 in
theorem lk_122 : (Jvm.Cond.instantiable "SameStar" (8 : Nat)) ∈ wG := tq_1 (List.mem_of_getElem? (i := 25) rfl) rfl
set_option maxRecDepth 20000 in
theorem lk_123 : (Jvm.Cond.methodLink "SameStarLaw" (9 : Nat) ({ cls := "SameStar", name := "<init>", desc := "()V" } : Jvm.MethodName)) ∈ wG := tq_1 (List.mem_of_getElem? (i := 26) rfl) rfl
set_option maxRecDepth 20000 in
theorem lk_124 : (Jvm.Cond.instanceMethod ({ cls := "SameStar", name := "<init>", desc := "()V" } : Jvm.MethodName)) ∈ wG := tq_1 (List.mem_of_getElem? (i := 27) rfl) rfl
set_option maxRecDepth 20000 in
theorem lk_130 : (Jvm.Cond.instantiable "SameStar$Sky" (5 : Nat)) ∈ wG := tq_1 (List.mem_of_getElem? (i := 33) rfl) rfl
set_option maxRecDepth 20000 in
theorem lk_157 : (Jvm.Cond.instantiable "SameStar$Tape" (6 : Nat)) ∈ wG := tq_1 (List.mem_of_getElem? (i := 60) rfl) rfl
set_option maxRecDepth 20000 in
theorem lk_183 : (Jvm.Cond.instantiable "SameStar$Sight" (5 : Nat)) ∈ wG := tq_1 (List.mem_of_getElem? (i := 86) rfl) rfl
set_option maxRecDepth 20000 in
theorem lk_189 : (Jvm.Cond.instantiable "SameStar$Text" (2 : Nat)) ∈ wG := tq_1 (List.mem_of_getElem? (i := 92) rfl) rfl
set_option maxRecDepth 20000 in
theorem lk_220 : (Jvm.Cond.instantiable "SameStar$Book" (11 : Nat)) ∈ wG := tq_1 (List.mem_of_getElem? (i := 123) rfl) rfl
set_option maxRecDepth 20000 in
theorem lk_274 : (Jvm.Cond.instantiable "SameStar$Story" (15 : Nat)) ∈ wG := tq_1 (List.mem_of_getElem? (i := 177) rfl) rfl
set_option maxRecDepth 20000 in
theorem lk_329 : (Jvm.Cond.instantiable "SameStar$Evenings" (3 : Nat)) ∈ wG := tq_1 (List.mem_of_getElem? (i := 232) rfl) rfl
set_option maxRecDepth 20000 in
theorem lk_346 : (Jvm.Cond.instantiable "SameStar$Acts" (2 : Nat)) ∈ wG := tq_2 (List.mem_of_getElem? (i := 9) rfl) rfl
set_option maxRecDepth 20000 in
theorem lk_360 : (Jvm.Cond.instantiable "SameStar$Pages" (5 : Nat)) ∈ wG := tq_2 (List.mem_of_getElem? (i := 23) rfl) rfl
set_option maxRecDepth 20000 in
theorem lk_473 : (Jvm.Cond.instantiable "SameStar$Comet" (14 : Nat)) ∈ wG := tq_2 (List.mem_of_getElem? (i := 136) rfl) rfl
set_option maxRecDepth 20000 in
theorem lk_890 : (Jvm.Cond.instantiable "SameStar$Word" (13 : Nat)) ∈ wG := tq_4 (List.mem_of_getElem? (i := 73) rfl) rfl
set_option maxRecDepth 20000 in
theorem lk_1426 : (Jvm.Cond.classLink "SameStarLaw" (10 : Nat) "SameStarModel") ∈ wG := tq_6 (List.mem_of_getElem? (i := 129) rfl) rfl
set_option maxRecDepth 20000 in
theorem lk_1427 : (Jvm.Cond.instantiable "SameStarModel" (69 : Nat)) ∈ wG := tq_6 (List.mem_of_getElem? (i := 130) rfl) rfl
set_option maxRecDepth 20000 in
theorem lk_1428 : (Jvm.Cond.methodLink "SameStarLaw" (12 : Nat) ({ cls := "SameStarModel", name := "<init>", desc := "()V" } : Jvm.MethodName)) ∈ wG := tq_6 (List.mem_of_getElem? (i := 131) rfl) rfl
set_option maxRecDepth 20000 in
theorem lk_1429 : (Jvm.Cond.instanceMethod ({ cls := "SameStarModel", name := "<init>", desc := "()V" } : Jvm.MethodName)) ∈ wG := tq_6 (List.mem_of_getElem? (i := 132) rfl) rfl
def stB : Term := .static "SameStar$Acts" "BODIES" "[I"
def stA : Term := .static "SameStar" "ABOVE" "[I"
def stN : Term := .string "SameStar$Tape" 85
def stV : Term := .field stN "java/lang/String" "value" "[B"
theorem el_B : ∀ j : Nat, j < 32 → Cond.eq (.elem stB (.int (Int32.ofNat j))) (.int (lBo.getD j 0)) ∈ flatC (Jvm.Cond.and given_1 narrow_1) := by decide +kernel
theorem el_A : ∀ j : Nat, j < 8 → Cond.eq (.elem stA (.int (Int32.ofNat j))) (.int (lAb.getD j 0)) ∈ flatC (Jvm.Cond.and given_1 narrow_1) := by decide +kernel
theorem el_N : ∀ j : Nat, j < 10 → Cond.eq (.elem stV (.int (Int32.ofNat j))) (.int (lNm.getD j 0)) ∈ flatC (Jvm.Cond.and given_1 narrow_1) := by decide +kernel
/-- what nobody writes, at the start -/
theorem ro_start {s : State} {args : Array Value} (hts : ∀ w ∈ lw_tbl, w.before args s = true) (hgv : (Jvm.Cond.and given_1 narrow_1).before args s = true) : aRo (fun q : Nat => s.heap.size ≤ q) s s.heap := by
  have hs := flat_of_before _ hgv
  have hA : ∀ a : Nat, a < s.heap.size → ¬ (fun q : Nat => s.heap.size ≤ q) a := fun a h q => Nat.lt_irrefl _ (Nat.lt_of_lt_of_le h q)
  obtain ⟨a, ha, hTa⟩ := va_Tof (tm := stA) (ty := .int) (N := 8) (f := fun j => .int (lAb.getD j 0)) (by decide) (hs _ (by decide +kernel)) (va_eqt (hs _ (by decide +kernel))) (fun j hj => va_eqt (hs _ (el_A j hj))) hA
  obtain ⟨b, hb, hTb⟩ := va_Tof (tm := stB) (ty := .int) (N := 32) (f := fun j => .int (lBo.getD j 0)) (by decide) (hs _ (by decide +kernel)) (va_eqt (hs _ (by decide +kernel))) (fun j hj => va_eqt (hs _ (el_B j hj))) hA
  obtain ⟨adK, adV, hk1, hk2⟩ := vk_Sof (s := s) (args := args) (N := 1) (tm := fun _ => stN) (len := [10]) (byt := [lNm]) (A := fun q : Nat => s.heap.size ≤ q) (fun i hi => by match i, hi with | 0, _ => decide) (fun i hi => hs _ (by decide +kernel)) (fun i hi => hs _ (by decide +kernel)) (fun i hi => hs _ (by decide +kernel)) (fun i hi => by match i, hi with | 0, _ => exact hs _ (by decide +kernel)) (fun i hi j hj => by match i, hi with | 0, _ => exact hs _ (el_N j hj)) (fun i j hi hj hij => absurd (by omega) hij) hA
  exact ⟨a, b, adK, adV, va_Zof (hts _ (by decide +kernel)) (hts _ (by decide +kernel)) ha hA, hTa, va_Zof (hts _ (by decide +kernel)) (hts _ (by decide +kernel)) hb hA, hTb, va_Zof (hts _ (by decide +kernel)) (hts _ (by decide +kernel)) (va_eqt (hs _ (by decide +kernel))) hA, hk1, vk_R.of (hts _ (by decide +kernel)) (hk2 0 (by decide))⟩
/-- what the two constructors ask -/
def aStart (n2 : Nat) (I : aH → Nat → Nat → Prop) : Prop :=
  ∃ mc ms : Nat, mc + 1 ≤ 599999 ∧ ms + 69 ≤ 7302242 ∧ aCall Mt 60 123 [.inr (.inr (some 0))] [.inl (11, d11)] mc ms (fun r h1 => r = none ∧ h1.length = n2 ∧ (∃ fs, h1[0]? = some (.inl (11, fs))) ∧ ∃ mc2 ms2 : Nat, mc2 ≤ 599999 - mc - 1 ∧ ms2 ≤ 7302242 - ms - 69 ∧ aCall Mt 60 183 [.inr (.inr (some n2))] (h1 ++ [.inl (12, d12)]) mc2 ms2 (fun r h2 => r = none ∧ I h2 (599999 - mc - 1 - mc2) (7302242 - ms - 69 - ms2)))
set_option maxRecDepth 20000 in
set_option maxHeartbeats 4000000 in
/-- THE LAW FROM ITS ENTRY, by what the constructors and the calls do -/
theorem law_start {p : Program} {e : Env} {s : State} {m : MethodId} {below : List Frame} {meth : Method} {c : Code} (l : Launch) {b L : Nat} {xs : Nat → Int32} (hL : L ≤ 384) (C0 : lw_At p s m meth c b L xs) (Inv : Nat → aH → Nat → Nat → Prop) (hst : aStart 69 (Inv 0)) (hop : ∀ (j : Nat) (h : aH) (kc ks : Nat), Inv j h kc ks → j + 6 ≤ L → ∀ k : Nat, (xs j &&& 63).toInt = (k : Int) → aOpK xs j (Inv (j + 6)) h kc ks k) : W p l e room_1 s m #[Value.ref b] below meth c s.heap [] 0 0 (lw_Z below #[Value.ref b] s) (entryFrame m ([Value.ref b] : List Value).toArray 4) := by
  obtain ⟨hx, hb, hr, hml, hown, hts, hX, hbl, hlocks, hgv⟩ := id C0
  have hA : ∀ q : Nat, s.heap.size ≤ q → (fun q : Nat => s.heap.size ≤ q) q := fun _ h => h
  obtain ⟨cz0, iS0, hKn0⟩ := u_known (C := RX0) (T := TX0) (N := 2) (n := 2) hts (fun w h => wG_in (iX0 w h)) (hts (.instantiable RX0 2) (wG_in lk_346))
  obtain ⟨cz1, iS1, hKn1⟩ := u_known (C := RX1) (T := TX1) (N := 11) (n := 11) hts (fun w h => wG_in (iX1 w h)) (hts (.instantiable RX1 11) (wG_in lk_220))
  obtain ⟨cz2, iS2, hKn2⟩ := u_known (C := RX2) (T := TX2) (N := 14) (n := 14) hts (fun w h => wG_in (iX2 w h)) (hts (.instantiable RX2 14) (wG_in lk_473))
  obtain ⟨cz3, iS3, hKn3⟩ := u_known (C := RX3) (T := TX3) (N := 3) (n := 3) hts (fun w h => wG_in (iX3 w h)) (hts (.instantiable RX3 3) (wG_in lk_329))
  obtain ⟨cz4, iS4, hKn4⟩ := u_known (C := RX4) (T := TX4) (N := 5) (n := 5) hts (fun w h => wG_in (iX4 w h)) (hts (.instantiable RX4 5) (wG_in lk_360))
  obtain ⟨cz5, iS5, hKn5⟩ := u_known (C := RX5) (T := TX5) (N := 5) (n := 5) hts (fun w h => wG_in (iX5 w h)) (hts (.instantiable RX5 5) (wG_in lk_183))
  obtain ⟨cz6, iS6, hKn6⟩ := u_known (C := RX6) (T := TX6) (N := 5) (n := 5) hts (fun w h => wG_in (iX6 w h)) (hts (.instantiable RX6 5) (wG_in lk_130))
  obtain ⟨cz7, iS7, hKn7⟩ := u_known (C := RX7) (T := TX7) (N := 15) (n := 15) hts (fun w h => wG_in (iX7 w h)) (hts (.instantiable RX7 15) (wG_in lk_274))
  obtain ⟨cz8, iS8, hKn8⟩ := u_known (C := RX8) (T := TX8) (N := 6) (n := 6) hts (fun w h => wG_in (iX8 w h)) (hts (.instantiable RX8 6) (wG_in lk_157))
  obtain ⟨cz9, iS9, hKn9⟩ := u_known (C := RX9) (T := TX9) (N := 2) (n := 2) hts (fun w h => wG_in (iX9 w h)) (hts (.instantiable RX9 2) (wG_in lk_189))
  obtain ⟨cz10, iS10, hKn10⟩ := u_known (C := RX10) (T := TX10) (N := 13) (n := 13) hts (fun w h => wG_in (iX10 w h)) (hts (.instantiable RX10 13) (wG_in lk_890))
  obtain ⟨cz11, iS11, hKn11⟩ := u_known (C := RX11) (T := TX11) (N := 8) (n := 8) hts (fun w h => wG_in (iX11 w h)) (hts (.instantiable RX11 8) (wG_in lk_122))
  obtain ⟨cz12, iS12, hKn12⟩ := u_known (C := RX12) (T := TX12) (N := 69) (n := 69) hts (fun w h => wG_in (iX12 w h)) (hts (.instantiable RX12 69) (wG_in lk_1427))
  obtain ⟨dC, dI, hKc⟩ : ∃ (dC : Nat → ClassId) (dI : Nat → Nat → Nat), ∀ (k : Nat) (q : vw_C), vwCl[k]? = some q → u_Kn s q.1 q.2.1 q.2.2 (dC k) (dI k) := by
    refine ⟨fun k => if k = 0 then cz0 else if k = 1 then cz1 else if k = 2 then cz2 else if k = 3 then cz3 else if k = 4 then cz4 else if k = 5 then cz5 else if k = 6 then cz6 else if k = 7 then cz7 else if k = 8 then cz8 else if k = 9 then cz9 else if k = 10 then cz10 else if k = 11 then cz11 else cz12, fun k => if k = 0 then iS0 else if k = 1 then iS1 else if k = 2 then iS2 else if k = 3 then iS3 else if k = 4 then iS4 else if k = 5 then iS5 else if k = 6 then iS6 else if k = 7 then iS7 else if k = 8 then iS8 else if k = 9 then iS9 else if k = 10 then iS10 else if k = 11 then iS11 else iS12, ?_⟩
    intro k q hq
    match k, hq with
    | 0, hq => cases hq; exact hKn0
    | 1, hq => cases hq; exact hKn1
    | 2, hq => cases hq; exact hKn2
    | 3, hq => cases hq; exact hKn3
    | 4, hq => cases hq; exact hKn4
    | 5, hq => cases hq; exact hKn5
    | 6, hq => cases hq; exact hKn6
    | 7, hq => cases hq; exact hKn7
    | 8, hq => cases hq; exact hKn8
    | 9, hq => cases hq; exact hKn9
    | 10, hq => cases hq; exact hKn10
    | 11, hq => cases hq; exact hKn11
    | 12, hq => cases hq; exact hKn12
    | k + 13, hq => simp [vwCl] at hq
  have hNw : aNw s := nw_ex hts
  obtain ⟨tys, htys, htk⟩ := tys_ex hts hNw
  have hK : va_K (dC, dI) vwCl tys s := ⟨hKc, htk⟩
  have hRo := ro_start hts hgv
  have C : LC p s m meth c b L xs (dC, dI) tys := ⟨C0, hK, htys, hNw, hL, hRo⟩
  have htsG : ∀ w ∈ wG, w.before #[Value.ref b] s = true := fun w hw => hts w (wG_in hw)
  have hS : va_S (fun q : Nat => s.heap.size ≤ q) s.heap s.heap [] := va_S.rf
  have hP : va_P (dC, dI) vwCl [] s.heap := fun k q h => by simp at h
  have hD : va_D (fun q : Nat => s.heap.size ≤ q) [] := ⟨fun i j p q h => by simp at h, fun k q h => by simp at h⟩
  have hl := lv_entry ([.ref b]) (n := 4) (Nat.le_of_ble_eq_true rfl)
  rw [lg_entry_eq]
  generalize (lg_sl ([.ref b]) ++ List.replicate (4 - (lg_sl ([.ref b])).length) Slot.unset).toArray = ls at hl ⊢
  have hl : lv_has ls 4 [(0, .ref b)] := hl
  obtain ⟨mc, ms, a1, a2, a3⟩ := hst
  have hH0 : rH tys [] [] := ⟨rfl, fun k c h => by simp at h⟩
  refine va_new (ci := 11) (C := RX11) (T := TX11) (N := 8) hx hb hts (fun w h => wG_in (iX11 w h)) tyX11 tyX11_ok hown (hts _ (wG_in lk_121)) (hts _ (wG_in lk_122)) (hts _ (wG_in lk_98)) hK hP hD hS hA rfl (fs := d11.map c0) (by decide +kernel) (by decide) (by decide) (show decode code 0 = .ok (.new 7, 3) from dq3_new (by decide +kernel) (by decide)) (fun q1 H hP hD hS => ?_)
  have hH1 : rH tys ([] ++ [(q1, .inr (11, d11.map c0))]) ([] ++ [.inl (11, d11)]) := hH0.push ⟨_, rfl, rS.plain rfl⟩
  refine lv_dup hx hb (show decode code 3 = .ok (.dup, 1) from dq1_dup (by decide +kernel)) rfl ?_
  have hMet := ok_all 60 123 mX11_init mt_123 _ _ mc ms _ a3 l (dC, dI) tys _ [.ref q1] H.size htys hH1 ⟨_, _, rfl, ⟨q1, _, rfl, rfl⟩, rfl⟩
  refine a_call (rest := [.ref q1]) (va_runI (As := []) ⟨hx, hb, hml, hown, htsG⟩ hMet ⟨lg_CB (n := 0) htsG fc_X11_init fi_X11_init lk_123 fd_X11_init (by decide) (by decide), rfl, htsG _ lk_124⟩ ⟨aPc_blind, fun U hU hW => aPc_at hU hW hP hK hNw hD hRo hS hA⟩ rfl rfl hl.1 rfl (lv_room (Nat.le_of_ble_eq_true rfl)) (show decode code 4 = .ok (.invokespecial 9, 3) from dq3_invokespecial (by decide +kernel) (by decide)) ⟨by show 0 + 1 + mc ≤ 600000; omega, by show 0 + 8 + ms ≤ 7302250; omega⟩) hS hD hA (fun r h1 u w H1 locs1 hrr hp hXu hHu hPu hDu hSu => ?_)
  obtain ⟨rfl, hn2, ⟨fs, hfs⟩, mc2, ms2, b1, b2, b3⟩ := hp
  have hw : w = none := by cases w with | none => rfl | some z => exact hrr.elim
  subst hw
  obtain ⟨g1, hg1⟩ := hXu 0 q1 _ rfl
  have hlen : u.length = 69 := by rw [hHu.1]; exact hn2
  refine lv_astore_n (lv' := [(1, .ref q1), (0, .ref b)]) hx hb (show decode code 7 = .ok (.astore_n 1, 1) from dq1_astore_n_1 (by decide +kernel)) rfl hl (by decide) rfl (fun ls hl => ?_)
  refine va_new (ci := 12) (C := RX12) (T := TX12) (N := 69) hx hb hts (fun w h => wG_in (iX12 w h)) tyX12 tyX12_ok hown (hts _ (wG_in lk_1426)) (hts _ (wG_in lk_1427)) (hts _ (wG_in lk_109)) hK hPu hDu hSu hA rfl (fs := d12.map c0) (by decide +kernel) (by show 0 + 1 + mc + 1 ≤ 600000; omega) (by show 0 + 8 + ms + 69 ≤ 7302250; omega) (show decode code 8 = .ok (.new 10, 3) from dq3_new (by decide +kernel) (by decide)) (fun q2 H hP hD hS => ?_)
  have hH2 : rH tys (u ++ [(q2, .inr (12, d12.map c0))]) (h1 ++ [.inl (12, d12)]) := hHu.push ⟨_, rfl, rS.plain rfl⟩
  refine lv_dup hx hb (show decode code 11 = .ok (.dup, 1) from dq1_dup (by decide +kernel)) rfl ?_
  have hMet2 := ok_all 60 183 mX12_init mt_183 _ _ mc2 ms2 _ b3 l (dC, dI) tys _ [.ref q2] H.size htys hH2 ⟨_, _, rfl, ⟨q2, _, ws_new hlen, rfl⟩, rfl⟩
  refine a_call (rest := [.ref q2]) (va_runI (As := []) ⟨hx, hb, hml, hown, htsG⟩ hMet2 ⟨lg_CB (n := 0) htsG fc_X12_init fi_X12_init lk_1428 fd_X12_init (by decide) (by decide), rfl, htsG _ lk_1429⟩ ⟨aPc_blind, fun U hU hW => aPc_at hU hW hP hK hNw hD hRo hS hA⟩ rfl rfl hl.1 rfl (lv_room (Nat.le_of_ble_eq_true rfl)) (show decode code 12 = .ok (.invokespecial 12, 3) from dq3_invokespecial (by decide +kernel) (by decide)) ⟨by show 0 + 1 + mc + 1 + mc2 ≤ 600000; omega, by show 0 + 8 + ms + 69 + ms2 ≤ 7302250; omega⟩) hS hD hA (fun r h2 u2 w H2 locs2 hrr hp hXu2 hHu2 hPu2 hDu2 hSu2 => ?_)
  obtain ⟨rfl, hI⟩ := hp
  have hw : w = none := by cases w with | none => rfl | some z => exact hrr.elim
  subst hw
  obtain ⟨g1', hg1'⟩ := rX.push.tr hXu2 0 q1 g1 hg1
  obtain ⟨g2', hg2'⟩ := hXu2 69 q2 _ (ws_new hlen)
  refine lv_astore_n (lv' := [(2, .ref q2), (1, .ref q1), (0, .ref b)]) hx hb (show decode code 15 = .ok (.astore_n 2, 1) from dq1_astore_n_2 (by decide +kernel)) rfl hl (by decide) rfl (fun ls hl => ?_)
  refine lv_iconst (v := 0) hx hb (show decode code 16 = .ok (.iconst 0, 1) from dq1_iconst_0 (by decide +kernel)) (by decide) ?_
  refine lv_istore_n (lv' := [(3, .int 0), (2, .ref q2), (1, .ref q1), (0, .ref b)]) hx hb (show decode code 17 = .ok (.istore_n 3, 1) from dq1_istore_n_3 (by decide +kernel)) rfl hl (by decide) rfl (fun ls hl => ?_)
  exact law_loop C Inv hop (L + 1) 0 h2 _ _ (by omega) (by omega) hI H2 locs2 _ _ ls [] u2 q1 q2 g1' g2' hPu2 hDu2 hSu2 hHu2 hg1' hg2' (lv_sub hl [3, 2, 1, 0] rfl) rfl (by omega) (by omega)
theorem fresh (I : aH → Nat → Nat → Prop) (hI : I hF 599886 7290165) : aStart 69 I := by
  refine ⟨68, 3516, by decide, by decide, aCall_le (d := 4) (by decide) (ac_post (ex_run (bud := bud0) run_C) (fun r h e => ?_))⟩
  obtain ⟨rfl, rfl⟩ := e
  refine ⟨rfl, rfl, ⟨_, rfl⟩, 44, 8492, by decide, by decide, aCall_le (d := 4) (by decide) (ac_post (ex_run (bud := bud0) run_F) (fun r h e => ?_))⟩
  obtain ⟨rfl, rfl⟩ := e
  exact ⟨rfl, hI⟩
