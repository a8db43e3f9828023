/-! the law's start -/
/-- the words that the start reads off the tables, beside ALL -/
def WST : List Cond := [Cond.arrayOver (.object RX5), Cond.castable xIAE xIAE, Cond.castable xISE xISE, Cond.castable xIOB xIOB, Cond.laysStatic Bundle.tN "UNASSIGNED_STACK" Bundle.steD, Cond.laysStatic Bundle.tN "SUPPRESSED_SENTINEL" Bundle.listD, Cond.initialized Bundle.tN, Cond.laysStatic "java/lang/String" "COMPACT_STRINGS" "Z", Cond.initialized "java/lang/String", Cond.laysStatic "jdk/internal/util/Preconditions" "SIOOBE_FORMATTER" "Ljava/util/function/BiFunction;", Cond.initialized "jdk/internal/util/Preconditions", Cond.stringRef "CnfXorSolverLaw" 176 ";=aAz1"] ++ (DCL.map Cond.declares ++ (STR.map (fun q => Cond.stringRef RX7 q.1 q.2) ++ NWL))
set_option maxRecDepth 100000 in
set_option maxHeartbeats 4000000 in
theorem WST_in : ∀ w ∈ WST, w ∈ lw_tbl := by decide +kernel
theorem nest_tabs {w : Cond} (h : isNest w = true) : w.onTables = true := by
  unfold isNest at h
  split at h
  · rfl
  · rfl
  · cases h
set_option maxHeartbeats 4000000 in
set_option maxRecDepth 100000 in
theorem txp_start {s : State} {b : Nat} (hts : ∀ w ∈ lw_tbl, w.before #[Value.ref b] s = true) (hgv : (Jvm.Cond.and given_1 narrow_1).before #[Value.ref b] s = true) : TXP (fun q => s.heap.size ≤ q) s s.heap ∧ NCP s ∧ va_AO RX5 s ∧ NW s := by
  have hg := flat_of_before _ hgv
  have hw : ∀ w ∈ WST, w.before #[Value.ref b] s = true := fun w h => hts w (WST_in w h)
  have h0 : ∀ (j : Nat) (w : Cond), WST[j]? = some w → w.before #[Value.ref b] s = true := fun j w h => hw w (List.mem_of_getElem? h)
  have hA : ∀ a : Nat, a < s.heap.size → ¬ s.heap.size ≤ a := fun a h => Nat.not_le.mpr h
  have g1 : (Cond.isRef (.static "java/lang/Throwable" "UNASSIGNED_STACK" "[Ljava/lang/StackTraceElement;")).before #[Value.ref b] s = true := hg _ (by decide +kernel)
  have g2 : (Cond.isRef (.static "java/lang/Throwable" "SUPPRESSED_SENTINEL" "Ljava/util/List;")).before #[Value.ref b] s = true := hg _ (by decide +kernel)
  have g3 : (Cond.not (.castable "java/lang/IllegalStateException" "java/lang/IllegalArgumentException")).before #[Value.ref b] s = true := hg _ (by decide +kernel)
  have g4 : (Cond.not (.castable "java/lang/IllegalStateException" "java/lang/IndexOutOfBoundsException")).before #[Value.ref b] s = true := hg _ (by decide +kernel)
  refine ⟨⟨vx_Zqof (h0 4 _ rfl) (h0 6 _ rfl) g1 hA, vx_Zqof (h0 5 _ rfl) (h0 6 _ rfl) g2 hA, va_Nw.of rfl (h0 1 _ rfl), va_Nw.of rfl (h0 2 _ rfl), va_Nw.of rfl (h0 3 _ rfl), fun y hy => va_Nw.of rfl (hw _ (List.mem_append_right _ (List.mem_append_left _ (List.mem_map_of_mem hy)))), fun q hq => ?_⟩, ⟨va_Nc.of g3, va_Nc.of g4⟩, va_AO.of (h0 0 _ rfl), fun w hn => va_Nw.of (nest_tabs (NWL_nest w hn)) (hw _ (List.mem_append_right _ (List.mem_append_right _ (List.mem_append_right _ hn))))⟩
  have h1 := hw (Cond.stringRef RX7 q.1 q.2) (List.mem_append_right _ (List.mem_append_right _ (List.mem_append_left _ (List.mem_map_of_mem (f := fun q => Cond.stringRef RX7 q.1 q.2) hq))))
  cases hc : s.vm.findClass RX7 with
  | none => simp [Cond.before, Cond.holds, Cond.value, hc] at h1
  | some cur =>
    obtain ⟨_, _, _, a, _, _, _, _, _, hev⟩ := Cond.stringRef_spec hc h1
    exact ⟨a, vk_R.of h1 hev⟩
theorem arr_start {s : State} {args : Array Value} {ty : FieldType} (hp : ty = .int ∨ ty = .boolean ∨ ty = .long) (h : (Cond.arrayClass ty).before args s = true) : ∃ c, ArrOfT s c ty ∧ va_RA s c ty := by
  obtain ⟨c, kA, comp, h1, h2, h3⟩ := Cond.arrayClass_spec h
  refine ⟨c, fun n z => ⟨(fun k h => by cases h), kA, h2, comp, h3⟩, ?_⟩
  rcases hp with rfl | rfl | rfl <;> exact h1
theorem arrS_start {s : State} (h : va_AO RX5 s) : ∃ c, ArrOfT s c (.object RX5) ∧ va_RA s c (.object RX5) := by
  obtain ⟨comp, c, kA, f4, _, f2, f3, f1⟩ := Cond.arrayOver_spec h
  exact ⟨c, fun n z => ⟨(fun k h => by cases h), kA, f2, comp, f3⟩, kA, comp, f2, f3, f4, f1⟩
set_option maxHeartbeats 4000000 in
set_option maxRecDepth 100000 in
theorem zs_start {s : State} {b : Nat} (hts : ∀ w ∈ lw_tbl, w.before #[Value.ref b] s = true) (hgv : (Jvm.Cond.and given_1 narrow_1).before #[Value.ref b] s = true) : ZS (fun q => s.heap.size ≤ q) s s.heap := by
  have hg := flat_of_before _ hgv
  have h0 : ∀ (j : Nat) (w : Cond), WST[j]? = some w → w.before #[Value.ref b] s = true := fun j w h => hts w (WST_in w (List.mem_of_getElem? h))
  have hA : ∀ a : Nat, a < s.heap.size → ¬ s.heap.size ≤ a := fun a h => Nat.not_le.mpr h
  have e1 : (Cond.exactly (.string "CnfXorSolverLaw" 176) "java/lang/String").before #[Value.ref b] s = true := hg _ (by decide +kernel)
  have e2 : (Cond.eq (.field (.string "CnfXorSolverLaw" 176) "java/lang/String" "coder" "B") (.int 0)).before #[Value.ref b] s = true := hg _ (by decide +kernel)
  have e3 : (Cond.arrayOf (.field (.string "CnfXorSolverLaw" 176) "java/lang/String" "value" "[B") .byte).before #[Value.ref b] s = true := hg _ (by decide +kernel)
  have e4 : (Cond.eq (.length (.field (.string "CnfXorSolverLaw" 176) "java/lang/String" "value" "[B")) (.int (Int32.ofNat 6))).before #[Value.ref b] s = true := hg _ (by decide +kernel)
  have e5 : ∀ j, j < 6 → (Cond.eq (.elem (.field (.string "CnfXorSolverLaw" 176) "java/lang/String" "value" "[B") (.int (Int32.ofNat j))) (.int (([59, 61, 97, 65, 122, 49] : List Int32).getD j 0))).before #[Value.ref b] s = true := by
    intro j hj
    rcases (show j = 0 ∨ j = 1 ∨ j = 2 ∨ j = 3 ∨ j = 4 ∨ j = 5 by omega) with rfl | rfl | rfl | rfl | rfl | rfl <;> exact hg _ (by decide +kernel)
  have e6 : (Cond.eq (.static "java/lang/String" "COMPACT_STRINGS" "Z") (.int 1)).before #[Value.ref b] s = true := hg _ (by decide +kernel)
  have e7 : (Cond.isRef (.static "jdk/internal/util/Preconditions" "SIOOBE_FORMATTER" "Ljava/util/function/BiFunction;")).before #[Value.ref b] s = true := hg _ (by decide +kernel)
  have h1 : (Cond.stringRef "CnfXorSolverLaw" 176 ";=aAz1").before #[Value.ref b] s = true := h0 11 _ rfl
  cases hc : s.vm.findClass "CnfXorSolverLaw" with
  | none => simp [Cond.before, Cond.holds, Cond.value, hc] at h1
  | some cur =>
    obtain ⟨_, _, _, a, _, _, _, _, _, hev⟩ := Cond.stringRef_spec hc h1
    obtain ⟨t, ht, hT⟩ := va_Tof (N := 6) (f := fun j => .int (([59, 61, 97, 65, 122, 49] : List Int32).getD j 0)) (A := fun q => s.heap.size ≤ q) (by decide) e3 (va_eqt e4) (fun j hj => va_eqt (e5 j hj)) hA
    exact ⟨a, t, vk_R.of h1 hev, va_Oof e1 hev hA, vk_OFof hev (va_eqt e2) hA, vk_OFof hev ht hA, hT, va_Zof (h0 7 _ rfl) (h0 8 _ rfl) (va_eqi e6) hA, va_Zqof (h0 9 _ rfl) (h0 10 _ rfl) e7 hA⟩
set_option maxHeartbeats 4000000 in
set_option maxRecDepth 100000 in
theorem kb_start {s : State} {args : Array Value} (htA : ∀ w ∈ ALL, w.before args s = true) (ao : va_AO RX5 s) : ∃ k : KX, kN k = 0 ∧ va_K (kD k) vwCl (ktys k) s := by
  obtain ⟨c0, i0, hK0⟩ := u_known (C := RX0) (T := TX0) (N := 3) (n := 3) htA inA0 (htA _ m_262)
  obtain ⟨c1, i1, hK1⟩ := u_known (C := RX1) (T := TX1) (N := 2) (n := 2) htA inA1 (htA _ m_71)
  obtain ⟨c2, i2, hK2⟩ := u_known (C := RX2) (T := TX2) (N := 6) (n := 6) htA inA2 (htA _ m_248)
  obtain ⟨c3, i3, hK3⟩ := u_known (C := RX3) (T := TX3) (N := 4) (n := 4) htA inA3 (htA _ m_256)
  obtain ⟨c4, i4, hK4⟩ := u_known (C := RX4) (T := TX4) (N := 2) (n := 2) htA inA4 (htA _ m_259)
  obtain ⟨c5, i5, hK5⟩ := u_known (C := RX5) (T := TX5) (N := 3) (n := 3) htA inA5 (htA _ m_132)
  obtain ⟨c6, i6, hK6⟩ := u_known (C := RX6) (T := TX6) (N := 9) (n := 9) htA inA6 (htA _ m_253)
  obtain ⟨c7, i7, hK7⟩ := u_known (C := RX7) (T := TX7) (N := 8) (n := 8) htA inA7 (htA _ m_684)
  obtain ⟨cI, hI⟩ := arr_start (Or.inl rfl) (htA _ m_4)
  obtain ⟨cZ, hZ⟩ := arr_start (Or.inr (Or.inl rfl)) (htA _ m_129)
  obtain ⟨cS, hS⟩ := arrS_start ao
  refine ⟨((fun j => if j = 0 then c0 else if j = 1 then c1 else if j = 2 then c2 else if j = 3 then c3 else if j = 4 then c4 else if j = 5 then c5 else if j = 6 then c6 else c7, fun j => if j = 0 then i0 else if j = 1 then i1 else if j = 2 then i2 else if j = 3 then i3 else if j = 4 then i4 else if j = 5 then i5 else if j = 6 then i6 else i7), (cI, cZ, cI, cS), fun _ => 0, 0), rfl, fun c q hq => ?_, fun j q hq => ?_⟩
  · match c, hq with
    | 0, hq => cases hq; exact hK0
    | 1, hq => cases hq; exact hK1
    | 2, hq => cases hq; exact hK2
    | 3, hq => cases hq; exact hK3
    | 4, hq => cases hq; exact hK4
    | 5, hq => cases hq; exact hK5
    | 6, hq => cases hq; exact hK6
    | 7, hq => cases hq; exact hK7
    | c + 8, hq => simp [vwCl] at hq
  · match j, hq with
    | 0, hq => cases hq; exact hI
    | 1, hq => cases hq; exact hZ
    | 2, hq => cases hq; exact hI
    | 3, hq => cases hq; exact hS
    | j + 4, hq => simp [ktys] at hq
set_option maxHeartbeats 4000000 in
set_option maxRecDepth 100000 in
theorem law_start {C : CT} {k : KX} {l : Launch} {b L : Nat} {xs : Nat → Int32} (X : OKc C k cL_law RL 7 ret) (hCl : C_l C = l) (hCR : C_R C = room_1) (hst0 : l.stackTraces = false) (ao : va_AO RX5 (C_s C)) (hLP : LPX (C_A C) (C_s C) (C_s C).heap) (hX : va_X b L xs (C_s C) (C_s C).heap) (hbl : b < (C_s C).heap.size) (hbA : ¬ C_A C b) (hL : L < 2 ^ 31) (hN : kN k = 0) (M : Mem) (hret : ∀ (k : KX) (z : Nat × Nat) (M : Mem) (lv : List (Nat × Value)), OKc C k cL_law RL 7 ret → z.1 ≤ 669154 → z.2 ≤ 7094006 → V C k 7 z M 144 lv [.int (nI 1)]) : V C k 7 (0, 0) M 0 [(0, .ref b)] [] := by
  have hfs_1 : ∀ j, j < 8 → defaultValue (tyX7 j) = vp_V [.null, .null, .null, .null, .null, .null, .null, .null] j := by
    intro j hj
    have h : j = 0 ∨ j = 1 ∨ j = 2 ∨ j = 3 ∨ j = 4 ∨ j = 5 ∨ j = 6 ∨ j = 7 := by omega
    rcases h with rfl | rfl | rfl | rfl | rfl | rfl | rfl | rfl <;> rfl
  refine v_new X hCR cls7 hfs_1 m_683 m_684 m_21 ⟨Nat.le_of_ble_eq_true rfl, Nat.le_of_ble_eq_true rfl⟩ dL_law_0 (fun k M_2 E1 hN1 hM_3 X => ?_)
  rw [hN] at hN1 hM_3
  rw [hN]
  have hN : kN k = 1 := by omega
  have F_4 : M_2 0 = .inr (7, [.null, .null, .null, .null, .null, .null, .null, .null]) := by rw [hM_3, mup_s]
  refine v_dup X rfl dL_law_3 ?_
  refine v_callI X ao hCl hCR (c_X7_init l k M_2 hN F_4) rfl mo_X7_init m_272 m_685 m_686 m_21 ⟨Nat.le_of_ble_eq_true rfl, Nat.le_of_ble_eq_true rfl⟩ rfl rfl (Nat.le_of_ble_eq_true rfl) ⟨Nat.le_of_ble_eq_true rfl, Nat.le_of_ble_eq_true rfl⟩ dL_law_4 (fun k M_5 E1 hp X => ?_)
  have hN3 : kN k = 93 := hp.1
  have hSN : SolNew k M_5 := hp.2
  refine v_cast (lv' := [(0, .ref b)]) (st' := [.ref (ad k 0)]) rfl (by rw [E1.at (i := 0) (by omega)]) ?_
  have hN : kN k = 93 := hN3
  refine v_astore_n X [(1, .ref (ad k 0)), (0, .ref b)] dL_law_7 (by decide) rfl ?_
  refine v_new X hCR cls7 hfs_1 m_683 m_684 m_21 ⟨Nat.le_of_ble_eq_true rfl, Nat.le_of_ble_eq_true rfl⟩ dL_law_8 (fun k M_7 E1 hN1 hM_8 X => ?_)
  rw [hN] at hN1 hM_8
  rw [hN]
  have hN : kN k = 94 := by omega
  have F_9 : M_7 93 = .inr (7, [.null, .null, .null, .null, .null, .null, .null, .null]) := by rw [hM_8, mup_s]
  refine v_cast (lv' := [(1, .ref (ad k 0)), (0, .ref b)]) (st' := [.ref (ad k 93)]) (by rw [E1.at (i := 0) (by omega)]) rfl ?_
  have hSN := hSN.ext (M' := M_7) (by omega) E1 (fun i hi => by rw [hM_8, mup_n (by omega)])
  refine v_dup X rfl dL_law_11 ?_
  refine v_callI X ao hCl hCR (c_init2 l k M_7 hN F_9) rfl mo_X7_init m_272 m_685 m_686 m_21 ⟨Nat.le_of_ble_eq_true rfl, Nat.le_of_ble_eq_true rfl⟩ rfl rfl (Nat.le_of_ble_eq_true rfl) ⟨Nat.le_of_ble_eq_true rfl, Nat.le_of_ble_eq_true rfl⟩ dL_law_12 (fun k2 M_10 E1 hp X => ?_)
  obtain ⟨k1, M1, ⟨hN1', hSN1⟩, E2, hk2, hM2⟩ := hp
  subst hk2
  subst hM2
  have hSN2 := hSN.ext (M' := mJo M_7 93 M1) (by omega) E1 (fun i hi => if_pos hi)
  refine v_cast (lv' := [(1, .ref (ad (kJo k 93 k1) 0)), (0, .ref b)]) (st' := [.ref (ad (kJo k 93 k1) 93)]) (by rw [E1.at (i := 0) (by omega)]) (by rw [E1.at (i := 93) (by omega)]) ?_
  refine v_astore_n X [(2, .ref (ad (kJo k 93 k1) 93)), (1, .ref (ad (kJo k 93 k1) 0)), (0, .ref b)] dL_law_15 (by decide) rfl ?_
  have hN3 : kN (kJo k 93 k1) = 186 := by show 93 + kN k1 = 186; omega
  refine v_permZ X (by omega) (fun k3 M3 hk3 hM3 X3 => ?_)
  have hA := At_zp hSN2 (by omega)
  have hB := At_zq (k := k) (M := M_7) hSN1 hN1' E2
  rw [← hk3, ← hM3] at hA hB
  have e0 : ad k3 0 = ad (kJo k 93 k1) 0 := by
    rw [hk3]
    show ad (kJo k 93 k1) (tw 0) = _
    rw [twA (by omega), sgA (by omega)]
  have e93 : ad k3 93 = ad (kJo k 93 k1) 93 := by
    rw [hk3]
    show ad (kJo k 93 k1) (tw 93) = _
    rw [twB (by omega) (by omega), show 93 + sg (93 - 93) = 93 by rw [sgA (by omega)]]
  have hN4 : kN k3 = 186 := by rw [hk3]; exact hN3
  rw [← e0, ← e93]
  refine v_widen (z' := (2000, 20000)) (Nat.le_of_ble_eq_true rfl) (Nat.le_of_ble_eq_true rfl) ?_
  exact law_loop hst0 X3 hCl hCR hLP hX hbl hbA hL hN4 M3 S0 rfl hA hB (fun z M lv h1 h2 => hret k3 z M lv X3 h1 h2)
