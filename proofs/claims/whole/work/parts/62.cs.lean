/-! the law's loop -/
theorem lw_gt {L i : Nat} (hL : L ≤ 2048) (hi : i ≤ 2048) (c : ¬ nI L - nI 4 < nI i) : i + 3 < L := by
  by_cases h : 4 ≤ L
  · rw [pk_sub h, nI_ltI (by omega) (by omega)] at c
    omega
  · refine absurd ?_ c
    have h0 : nI L - nI 4 < 0 := by
      rcases (show L = 0 ∨ L = 1 ∨ L = 2 ∨ L = 3 by omega) with rfl | rfl | rfl | rfl <;> decide
    exact Int32.lt_of_lt_of_le h0 (nI_pos' (by omega))
set_option maxHeartbeats 4000000 in
set_option maxRecDepth 100000 in
theorem law_loop {C : CT} {k : KX} {b L : Nat} {xs : Nat → Int32} (X : OKc C k cL_law RL 7 ret) (hLC : LCX C b L xs) (hN : 107 ≤ kN k) (hret : ∀ (z : Nat × Nat) (M : Mem) (lv : List (Nat × Value)), z.1 ≤ 601024 → z.2 ≤ 7293034 → V C k 7 z M 1695 lv [.int (nI 1)]) :
    ∀ (fu i : Nat) (M : Mem), L - i < fu → i ≤ L → LInv k M → V C k 7 (200 + 8 * i, 6000 + 64 * i) M 23 [(4, .int (nI i)), (3, .ref (ad k 106)), (2, .ref (ad k 93)), (1, .ref (ad k 0)), (0, .ref b)] [] := by
  have hLC' := hLC
  obtain ⟨hCR, hst0, ht, hnc, hX, hbl, hbA, hL⟩ := hLC'
  intro fu
  induction fu with
  | zero => intro i M hfu; exact absurd hfu (Nat.not_lt_zero _)
  | succ fu ih =>
    intro i M hfu hiL hI
    refine v_iload X 0 dL_law_23 rfl ?_
    refine v_aload_n X 4 dL_law_25 rfl ?_
    refine v_slen X hX hbl hbA dL_law_26 ?_
    refine v_iconst X (v := nI 4) (by decide) dL_law_27 ?_
    refine v_isub X dL_law_28 ?_
    refine v_icmp_gt X 1694 dL_law_29 (by decide) (fun c => ?_) (fun c => ?_)
    · refine v_iconst X (v := nI 1) (by decide) dL_law_1694 ?_
      exact hret _ _ _ (show 200 + 8 * i ≤ 601024 by omega) (show 6000 + 64 * i ≤ 7293034 by omega)
    · have hi := lw_gt hL (by omega) c
      have kk : ∀ M', LInv k M' → V C k 7 (200 + 8 * (i + 4), 6000 + 64 * (i + 4)) M' 1688 [(4, .int (nI i)), (3, .ref (ad k 106)), (2, .ref (ad k 93)), (1, .ref (ad k 0)), (0, .ref b)] [] := fun M' hI' => by
        refine v_iinc X (v := nI (i + 4)) 0 [(4, .int (nI (i + 4))), (3, .ref (ad k 106)), (2, .ref (ad k 93)), (1, .ref (ad k 0)), (0, .ref b)] dL_law_1688 rfl (nI_add _ 4) (by decide) rfl ?_
        refine v_goto X 23 dL_law_1691 (by decide) ?_
        exact ih (i + 4) M' (by omega) (by omega) hI'
      refine v_aload_n X 4 dL_law_32 rfl ?_
      refine v_iload X 0 dL_law_33 rfl ?_
      refine v_sld X hX hbl hbA (by omega) (by omega) dL_law_35 ?_
      refine v_bipush X (v := nI 63) (by decide) dL_law_36 ?_
      refine v_iand X dL_law_38 ?_
      generalize xs i &&& nI 63 = y
      by_cases h1 : y.toInt < 0
      · exact v_tswOut X 1688 dL_law_39 (Or.inl h1) (by decide) (v_widen (show 200 + 8 * i ≤ 200 + 8 * (i + 4) by omega) (show 6000 + 64 * i ≤ 6000 + 64 * (i + 4) by omega) (kk M hI))
      · by_cases h2 : 33 < y.toInt
        · exact v_tswOut X 1688 dL_law_39 (Or.inr h2) (by decide) (v_widen (show 200 + 8 * i ≤ 200 + 8 * (i + 4) by omega) (show 6000 + 64 * i ≤ 6000 + 64 * (i + 4) by omega) (kk M hI))
        · obtain ⟨n, hn, e⟩ : ∃ n : Nat, n ≤ 33 ∧ y.toInt = (n : Int) := ⟨y.toInt.toNat, by omega, by omega⟩
          rcases (show n = 0 ∨ n = 1 ∨ n = 2 ∨ n = 3 ∨ n = 4 ∨ n = 5 ∨ n = 6 ∨ n = 7 ∨ n = 8 ∨ n = 9 ∨ n = 10 ∨ n = 11 ∨ n = 12 ∨ n = 13 ∨ n = 14 ∨ n = 15 ∨ n = 16 ∨ n = 17 ∨ n = 18 ∨ n = 19 ∨ n = 20 ∨ n = 21 ∨ n = 22 ∨ n = 23 ∨ n = 24 ∨ n = 25 ∨ n = 26 ∨ n = 27 ∨ n = 28 ∨ n = 29 ∨ n = 30 ∨ n = 31 ∨ n = 32 ∨ n = 33 by omega) with rfl | rfl | rfl | rfl | rfl | rfl | rfl | rfl | rfl | rfl | rfl | rfl | rfl | rfl | rfl | rfl | rfl | rfl | rfl | rfl | rfl | rfl | rfl | rfl | rfl | rfl | rfl | rfl | rfl | rfl | rfl | rfl | rfl | rfl
          · exact v_tswIn X 188 dL_law_39 h1 h2 (by rw [e]; rfl) (by decide) (lwc_0 X hLC hN hi hI kk)
          · exact v_tswIn X 244 dL_law_39 h1 h2 (by rw [e]; rfl) (by decide) (lwc_1 X hLC hN hi hI kk)
          · exact v_tswIn X 257 dL_law_39 h1 h2 (by rw [e]; rfl) (by decide) (lwc_2 X hLC hN hi hI kk)
          · exact v_tswIn X 270 dL_law_39 h1 h2 (by rw [e]; rfl) (by decide) (lwc_3 X hLC hN hi hI kk)
          · exact v_tswIn X 314 dL_law_39 h1 h2 (by rw [e]; rfl) (by decide) (lwc_4 X hLC hN hi hI kk)
          · exact v_tswIn X 327 dL_law_39 h1 h2 (by rw [e]; rfl) (by decide) (lwc_5 X hLC hN hi hI kk)
          · exact v_tswIn X 390 dL_law_39 h1 h2 (by rw [e]; rfl) (by decide) (lwc_6 X hLC hN hi hI kk)
          · exact v_tswIn X 446 dL_law_39 h1 h2 (by rw [e]; rfl) (by decide) (lwc_7 X hLC hN hi hI kk)
          · exact v_tswIn X 502 dL_law_39 h1 h2 (by rw [e]; rfl) (by decide) (lwc_8 X hLC hN hi hI kk)
          · exact v_tswIn X 570 dL_law_39 h1 h2 (by rw [e]; rfl) (by decide) (lwc_9 X hLC hN hi hI kk)
          · exact v_tswIn X 638 dL_law_39 h1 h2 (by rw [e]; rfl) (by decide) (lwc_10 X hLC hN hi hI kk)
          · exact v_tswIn X 694 dL_law_39 h1 h2 (by rw [e]; rfl) (by decide) (lwc_11 X hLC hN hi hI kk)
          · exact v_tswIn X 774 dL_law_39 h1 h2 (by rw [e]; rfl) (by decide) (lwc_12 X hLC hN hi hI kk)
          · exact v_tswIn X 842 dL_law_39 h1 h2 (by rw [e]; rfl) (by decide) (lwc_13 X hLC hN hi hI kk)
          · exact v_tswIn X 898 dL_law_39 h1 h2 (by rw [e]; rfl) (by decide) (lwc_14 X hLC hN hi hI kk)
          · exact v_tswIn X 954 dL_law_39 h1 h2 (by rw [e]; rfl) (by decide) (lwc_15 X hLC hN hi hI kk)
          · exact v_tswIn X 998 dL_law_39 h1 h2 (by rw [e]; rfl) (by decide) (lwc_16 X hLC hN hi hI kk)
          · exact v_tswIn X 1042 dL_law_39 h1 h2 (by rw [e]; rfl) (by decide) (lwc_17 X hLC hN hi hI kk)
          · exact v_tswIn X 1055 dL_law_39 h1 h2 (by rw [e]; rfl) (by decide) (lwc_18 X hLC hN hi hI kk)
          · exact v_tswIn X 1111 dL_law_39 h1 h2 (by rw [e]; rfl) (by decide) (lwc_19 X hLC hN hi hI kk)
          · exact v_tswIn X 1167 dL_law_39 h1 h2 (by rw [e]; rfl) (by decide) (lwc_20 X hLC hN hi hI kk)
          · exact v_tswIn X 1223 dL_law_39 h1 h2 (by rw [e]; rfl) (by decide) (lwc_21 X hLC hN hi hI kk)
          · exact v_tswIn X 1236 dL_law_39 h1 h2 (by rw [e]; rfl) (by decide) (lwc_22 X hLC hN hi hI kk)
          · exact v_tswIn X 1280 dL_law_39 h1 h2 (by rw [e]; rfl) (by decide) (lwc_23 X hLC hN hi hI kk)
          · exact v_tswIn X 1293 dL_law_39 h1 h2 (by rw [e]; rfl) (by decide) (lwc_24 X hLC hN hi hI kk)
          · exact v_tswIn X 1318 dL_law_39 h1 h2 (by rw [e]; rfl) (by decide) (lwc_25 X hLC hN hi hI kk)
          · exact v_tswIn X 1393 dL_law_39 h1 h2 (by rw [e]; rfl) (by decide) (lwc_26 X hLC hN hi hI kk)
          · exact v_tswIn X 1468 dL_law_39 h1 h2 (by rw [e]; rfl) (by decide) (lwc_27 X hLC hN hi hI kk)
          · exact v_tswIn X 1481 dL_law_39 h1 h2 (by rw [e]; rfl) (by decide) (lwc_28 X hLC hN hi hI kk)
          · exact v_tswIn X 1494 dL_law_39 h1 h2 (by rw [e]; rfl) (by decide) (lwc_29 X hLC hN hi hI kk)
          · exact v_tswIn X 1507 dL_law_39 h1 h2 (by rw [e]; rfl) (by decide) (lwc_30 X hLC hN hi hI kk)
          · exact v_tswIn X 1563 dL_law_39 h1 h2 (by rw [e]; rfl) (by decide) (lwc_31 X hLC hN hi hI kk)
          · exact v_tswIn X 1576 dL_law_39 h1 h2 (by rw [e]; rfl) (by decide) (lwc_32 X hLC hN hi hI kk)
          · exact v_tswIn X 1632 dL_law_39 h1 h2 (by rw [e]; rfl) (by decide) (lwc_33 X hLC hN hi hI kk)
/-- the words that the start reads off the tables, beside ALL -/
def WST : List Cond := [Cond.arrayOver (.object RX5), Cond.castable xIAE xIAE, Cond.castable xISE xISE, Cond.castable xIOB xIOB, Cond.laysStatic Bundle.tN "UNASSIGNED_STACK" Bundle.steD, Cond.laysStatic Bundle.tN "SUPPRESSED_SENTINEL" Bundle.listD, Cond.initialized Bundle.tN] ++ (DCL.map Cond.declares ++ (STR.map (fun q => Cond.stringRef RX7 q.1 q.2) ++ NWL))
set_option maxRecDepth 100000 in
set_option maxHeartbeats 4000000 in
theorem WST_in : ∀ w ∈ WST, w ∈ lw_tbl := by decide +kernel
theorem nest_tabs {w : Cond} (h : isNest w = true) : w.onTables = true := by
  unfold isNest at h
  split at h
  · rfl
  · rfl
  · cases h
set_option maxHeartbeats 4000000 in
set_option maxRecDepth 100000 in
theorem txp_start {s : State} {b : Nat} (hts : ∀ w ∈ lw_tbl, w.before #[Value.ref b] s = true) (hgv : (Jvm.Cond.and given_1 narrow_1).before #[Value.ref b] s = true) : TXP (fun q => s.heap.size ≤ q) s s.heap ∧ NCP s ∧ va_AO RX5 s ∧ NW s := by
  have hg := flat_of_before _ hgv
  have hw : ∀ w ∈ WST, w.before #[Value.ref b] s = true := fun w h => hts w (WST_in w h)
  have h0 : ∀ (j : Nat) (w : Cond), WST[j]? = some w → w.before #[Value.ref b] s = true := fun j w h => hw w (List.mem_of_getElem? h)
  have hA : ∀ a : Nat, a < s.heap.size → ¬ s.heap.size ≤ a := fun a h => Nat.not_le.mpr h
  have g1 : (Cond.isRef (.static "java/lang/Throwable" "UNASSIGNED_STACK" "[Ljava/lang/StackTraceElement;")).before #[Value.ref b] s = true := hg _ (by decide +kernel)
  have g2 : (Cond.isRef (.static "java/lang/Throwable" "SUPPRESSED_SENTINEL" "Ljava/util/List;")).before #[Value.ref b] s = true := hg _ (by decide +kernel)
  have g3 : (Cond.not (.castable "java/lang/IllegalStateException" "java/lang/IllegalArgumentException")).before #[Value.ref b] s = true := hg _ (by decide +kernel)
  have g4 : (Cond.not (.castable "java/lang/IllegalStateException" "java/lang/IndexOutOfBoundsException")).before #[Value.ref b] s = true := hg _ (by decide +kernel)
  refine ⟨⟨vx_Zqof (h0 4 _ rfl) (h0 6 _ rfl) g1 hA, vx_Zqof (h0 5 _ rfl) (h0 6 _ rfl) g2 hA, va_Nw.of rfl (h0 1 _ rfl), va_Nw.of rfl (h0 2 _ rfl), va_Nw.of rfl (h0 3 _ rfl), fun y hy => va_Nw.of rfl (hw _ (List.mem_append_right _ (List.mem_append_left _ (List.mem_map_of_mem hy)))), fun q hq => ?_⟩, ⟨va_Nc.of g3, va_Nc.of g4⟩, va_AO.of (h0 0 _ rfl), fun w hn => va_Nw.of (nest_tabs (NWL_nest w hn)) (hw _ (List.mem_append_right _ (List.mem_append_right _ (List.mem_append_right _ hn))))⟩
  have h1 := hw (Cond.stringRef RX7 q.1 q.2) (List.mem_append_right _ (List.mem_append_right _ (List.mem_append_left _ (List.mem_map_of_mem (f := fun q => Cond.stringRef RX7 q.1 q.2) hq))))
  cases hc : s.vm.findClass RX7 with
  | none => simp [Cond.before, Cond.holds, Cond.value, hc] at h1
  | some cur =>
    obtain ⟨_, _, _, a, _, _, _, _, _, hev⟩ := Cond.stringRef_spec hc h1
    exact ⟨a, vk_R.of h1 hev⟩
theorem arr_start {s : State} {args : Array Value} {ty : FieldType} (hp : ty = .int ∨ ty = .boolean ∨ ty = .long) (h : (Cond.arrayClass ty).before args s = true) : ∃ c, ArrOfT s c ty ∧ va_RA s c ty := by
  obtain ⟨c, kA, comp, h1, h2, h3⟩ := Cond.arrayClass_spec h
  refine ⟨c, fun n z => ⟨(fun k h => by cases h), kA, h2, comp, h3⟩, ?_⟩
  rcases hp with rfl | rfl | rfl <;> exact h1
theorem arrS_start {s : State} (h : va_AO RX5 s) : ∃ c, ArrOfT s c (.object RX5) ∧ va_RA s c (.object RX5) := by
  obtain ⟨comp, c, kA, f4, _, f2, f3, f1⟩ := Cond.arrayOver_spec h
  exact ⟨c, fun n z => ⟨(fun k h => by cases h), kA, f2, comp, f3⟩, kA, comp, f2, f3, f4, f1⟩
set_option maxHeartbeats 4000000 in
set_option maxRecDepth 100000 in
theorem kb_start {s : State} {args : Array Value} (htA : ∀ w ∈ ALL, w.before args s = true) (ao : va_AO RX5 s) : ∃ k : KX, kN k = 0 ∧ va_K (kD k) vwCl (ktys k) s := by
  obtain ⟨c0, i0, hK0⟩ := u_known (C := RX0) (T := TX0) (N := 3) (n := 3) htA inA0 (htA _ m_262)
  obtain ⟨c1, i1, hK1⟩ := u_known (C := RX1) (T := TX1) (N := 2) (n := 2) htA inA1 (htA _ m_71)
  obtain ⟨c2, i2, hK2⟩ := u_known (C := RX2) (T := TX2) (N := 6) (n := 6) htA inA2 (htA _ m_248)
  obtain ⟨c3, i3, hK3⟩ := u_known (C := RX3) (T := TX3) (N := 4) (n := 4) htA inA3 (htA _ m_256)
  obtain ⟨c4, i4, hK4⟩ := u_known (C := RX4) (T := TX4) (N := 2) (n := 2) htA inA4 (htA _ m_259)
  obtain ⟨c5, i5, hK5⟩ := u_known (C := RX5) (T := TX5) (N := 3) (n := 3) htA inA5 (htA _ m_132)
  obtain ⟨c6, i6, hK6⟩ := u_known (C := RX6) (T := TX6) (N := 9) (n := 9) htA inA6 (htA _ m_253)
  obtain ⟨c7, i7, hK7⟩ := u_known (C := RX7) (T := TX7) (N := 8) (n := 8) htA inA7 (htA _ m_728)
  obtain ⟨c8, i8, hK8⟩ := u_known (C := RX8) (T := TX8) (N := 26) (n := 26) htA inA8 (htA _ m_730)
  obtain ⟨cI, hI⟩ := arr_start (Or.inl rfl) (htA _ m_4)
  obtain ⟨cZ, hZ⟩ := arr_start (Or.inr (Or.inl rfl)) (htA _ m_129)
  obtain ⟨cJ, hJ⟩ := arr_start (Or.inr (Or.inr rfl)) (htA _ m_731)
  obtain ⟨cS, hS⟩ := arrS_start ao
  refine ⟨((fun j => if j = 0 then c0 else if j = 1 then c1 else if j = 2 then c2 else if j = 3 then c3 else if j = 4 then c4 else if j = 5 then c5 else if j = 6 then c6 else if j = 7 then c7 else c8, fun j => if j = 0 then i0 else if j = 1 then i1 else if j = 2 then i2 else if j = 3 then i3 else if j = 4 then i4 else if j = 5 then i5 else if j = 6 then i6 else if j = 7 then i7 else i8), (cI, cZ, cJ, cS), fun _ => 0, 0), rfl, fun c q hq => ?_, fun j q hq => ?_⟩
  · match c, hq with
    | 0, hq => cases hq; exact hK0
    | 1, hq => cases hq; exact hK1
    | 2, hq => cases hq; exact hK2
    | 3, hq => cases hq; exact hK3
    | 4, hq => cases hq; exact hK4
    | 5, hq => cases hq; exact hK5
    | 6, hq => cases hq; exact hK6
    | 7, hq => cases hq; exact hK7
    | 8, hq => cases hq; exact hK8
    | c + 9, hq => simp [vwCl] at hq
  · match j, hq with
    | 0, hq => cases hq; exact hI
    | 1, hq => cases hq; exact hZ
    | 2, hq => cases hq; exact hJ
    | 3, hq => cases hq; exact hS
    | j + 4, hq => simp [ktys] at hq
set_option maxHeartbeats 4000000 in
set_option maxRecDepth 100000 in
theorem law_start {C : CT} {k : KX} {l : Launch} {b L : Nat} {xs : Nat → Int32} (X : OKc C k cL_law RL 7 ret) (hCl : C_l C = l) (hLC : LCX C b L xs) (ao : va_AO RX5 (C_s C)) (hN : kN k = 0) (M : Mem) (hret : ∀ (k : KX) (z : Nat × Nat) (M : Mem) (lv : List (Nat × Value)), OKc C k cL_law RL 7 ret → z.1 ≤ 601024 → z.2 ≤ 7293034 → V C k 7 z M 1695 lv [.int (nI 1)]) : V C k 7 (0, 0) M 0 [(0, .ref b)] [] := by
  have hLC' := hLC
  obtain ⟨hCR, hst0, ht, hnc, hX, hbl, hbA, hL⟩ := hLC'
  have E : kext k k := kext.rf
  have hfs_1 : ∀ j, j < 8 → defaultValue (tyX7 j) = vp_V [.null, .null, .null, .null, .null, .null, .null, .null] j := by
    intro j hj
    have h : j = 0 ∨ j = 1 ∨ j = 2 ∨ j = 3 ∨ j = 4 ∨ j = 5 ∨ j = 6 ∨ j = 7 := by omega
    rcases h with rfl | rfl | rfl | rfl | rfl | rfl | rfl | rfl <;> rfl
  refine v_new X hCR cls7 hfs_1 m_727 m_728 m_21 ⟨Nat.le_of_ble_eq_true rfl, Nat.le_of_ble_eq_true rfl⟩ dL_law_0 (fun k M_2 E1 hN1 hM_3 X => ?_)
  rw [hN] at hN1 hM_3
  rw [hN]
  have hN : kN k = 1 := by omega
  have F_4 : M_2 0 = .inr (7, [.null, .null, .null, .null, .null, .null, .null, .null]) := by rw [hM_3, mup_s]
  have E := E.tr E1
  refine v_dup X rfl dL_law_3 ?_
  refine v_callI X ao hCl hCR (c_X7_init l k M_2 hN F_4) rfl mo_X7_init m_272 m_732 m_733 m_21 ⟨Nat.le_of_ble_eq_true rfl, Nat.le_of_ble_eq_true rfl⟩ rfl rfl (Nat.le_of_ble_eq_true rfl) ⟨Nat.le_of_ble_eq_true rfl, Nat.le_of_ble_eq_true rfl⟩ dL_law_4 (fun k M_5 E1 hp X => ?_)
  have hN3 : kN k = 93 := hp.1
  have hSN : SolNew k M_5 := hp.2
  refine v_cast (lv' := [(0, .ref b)]) (st' := [.ref (ad k 0)]) rfl (by rw [E1.at (i := 0) (by omega)]) ?_
  have hN : kN k = 93 := hN3
  have E := E.tr E1
  refine v_astore_n X [(1, .ref (ad k 0)), (0, .ref b)] dL_law_7 (by decide) rfl ?_
  have hfs_6 : ∀ j, j < 26 → defaultValue (tyX8 j) = vp_V [.int (nI 0), .null, .null, .null, .int (nI 0), .int (nI 0), .null, .null, .int (nI 0), .int (nI 0), .null, .int (nI 0), .int (nI 0), .null, .null, .null, .int (nI 0), .int (nI 0), .int (nI 0), .null, .int (nI 0), .int (nI 0), .null, .null, .int (nI 0), .int (bI false)] j := by
    intro j hj
    have h : j = 0 ∨ j = 1 ∨ j = 2 ∨ j = 3 ∨ j = 4 ∨ j = 5 ∨ j = 6 ∨ j = 7 ∨ j = 8 ∨ j = 9 ∨ j = 10 ∨ j = 11 ∨ j = 12 ∨ j = 13 ∨ j = 14 ∨ j = 15 ∨ j = 16 ∨ j = 17 ∨ j = 18 ∨ j = 19 ∨ j = 20 ∨ j = 21 ∨ j = 22 ∨ j = 23 ∨ j = 24 ∨ j = 25 := by omega
    rcases h with rfl | rfl | rfl | rfl | rfl | rfl | rfl | rfl | rfl | rfl | rfl | rfl | rfl | rfl | rfl | rfl | rfl | rfl | rfl | rfl | rfl | rfl | rfl | rfl | rfl | rfl <;> rfl
  refine v_new X hCR cls8 hfs_6 m_729 m_730 m_465 ⟨Nat.le_of_ble_eq_true rfl, Nat.le_of_ble_eq_true rfl⟩ dL_law_8 (fun k M_7 E1 hN1 hM_8 X => ?_)
  rw [hN] at hN1 hM_8
  rw [hN]
  have hN : kN k = 94 := by omega
  have F_9 : M_7 93 = .inr (8, [.int (nI 0), .null, .null, .null, .int (nI 0), .int (nI 0), .null, .null, .int (nI 0), .int (nI 0), .null, .int (nI 0), .int (nI 0), .null, .null, .null, .int (nI 0), .int (nI 0), .int (nI 0), .null, .int (nI 0), .int (nI 0), .null, .null, .int (nI 0), .int (bI false)]) := by rw [hM_8, mup_s]
  refine v_cast (lv' := [(1, .ref (ad k 0)), (0, .ref b)]) (st' := [.ref (ad k 93)]) (by rw [E1.at (i := 0) (by omega)]) rfl ?_
  have E := E.tr E1
  have hSN := hSN.ext (M' := M_7) (by omega) E1 (fun i hi => by rw [hM_8, mup_n (by omega)])
  refine v_dup X rfl dL_law_11 ?_
  refine v_callI X ao hCl hCR (c_X8_init l k M_7 hN F_9) rfl mo_X8_init m_441 m_734 m_735 m_465 ⟨Nat.le_of_ble_eq_true rfl, Nat.le_of_ble_eq_true rfl⟩ rfl rfl (Nat.le_of_ble_eq_true rfl) ⟨Nat.le_of_ble_eq_true rfl, Nat.le_of_ble_eq_true rfl⟩ dL_law_12 (fun k M_10 E1 hp X => ?_)
  obtain ⟨hN3, r, hr0, G93, G94, G95, G96, G97, G98, G99, G100, G101, G102, G103, G104, G105, hfr⟩ := hp
  have hRN : RefNew k M_10 := ⟨r, hr0, G93, G94, G95, G96, G97, G98, G99, G100, G101, G102, G103, G104, G105⟩
  have hSN := hSN.ext (by omega) E1 hfr
  refine v_cast (lv' := [(1, .ref (ad k 0)), (0, .ref b)]) (st' := [.ref (ad k 93)]) (by rw [E1.at (i := 0) (by omega)]) (by rw [E1.at (i := 93) (by omega)]) ?_
  have hN : kN k = 106 := hN3
  have E := E.tr E1
  refine v_astore_n X [(2, .ref (ad k 93)), (1, .ref (ad k 0)), (0, .ref b)] dL_law_15 (by decide) rfl ?_
  refine v_iconst X (v := nI 1) (by decide) dL_law_16 ?_
  refine v_newJ X hCR (by decide) (by decide) m_731 ⟨Nat.le_of_ble_eq_true rfl, Nat.le_of_ble_eq_true rfl⟩ dL_law_17 (fun k M_11 E1 hN1 hM_12 X => ?_)
  rw [hN] at hN1 hM_12
  rw [hN]
  have hN : kN k = 107 := by omega
  have F_13 : M_11 106 = .inl (kJ k, 1, .inr (.inl ((fun _ => 0)))) := by rw [hM_12, mup_s, E1.J]
  refine v_cast (lv' := [(2, .ref (ad k 93)), (1, .ref (ad k 0)), (0, .ref b)]) (st' := [.ref (ad k 106)]) (by rw [E1.at (i := 93) (by omega), E1.at (i := 0) (by omega)]) rfl ?_
  have E := E.tr E1
  have hSN := hSN.ext (M' := M_11) (by omega) E1 (fun i hi => by rw [hM_12, mup_n (by omega)])
  have hRN := hRN.ext (M' := M_11) (by omega) E1 (fun i hi => by rw [hM_12, mup_n (by omega)])
  refine v_astore_n X [(3, .ref (ad k 106)), (2, .ref (ad k 93)), (1, .ref (ad k 0)), (0, .ref b)] dL_law_19 (by decide) rfl ?_
  refine v_iconst X (v := nI 0) (by decide) dL_law_20 ?_
  refine v_istore X [(4, .int (nI 0)), (3, .ref (ad k 106)), (2, .ref (ad k 93)), (1, .ref (ad k 0)), (0, .ref b)] dL_law_21 (by decide) rfl ?_
  refine v_perm X (by omega) (fun k2 M2 hk2 hM2 X2 => ?_)
  have hS2 := hSN.p (by omega)
  have hR2 := hRN.p (by omega)
  have F2 : mp M_11 106 = .inl (kJ k2, 1, .inr (.inl (fun _ => 0))) := by
    rw [hk2]
    show M_11 (sg 106) = _
    rw [sgD (by omega)]
    exact F_13
  have e0 : ad k2 0 = ad k 0 := by rw [hk2]; show ad k (sg 0) = _; rw [sgA (by omega)]
  have e93 : ad k2 93 = ad k 93 := by rw [hk2]; show ad k (sg 93) = _; rw [sgD (by omega)]
  have e106 : ad k2 106 = ad k 106 := by rw [hk2]; show ad k (sg 106) = _; rw [sgD (by omega)]
  rw [← hk2, ← hM2] at hS2 hR2
  rw [← hM2] at F2
  have hN2 : 107 ≤ kN k2 := by rw [hk2]; show 107 ≤ kN k; omega
  rw [← e0, ← e93, ← e106]
  refine v_widen (z' := (200 + 8 * 0, 6000 + 64 * 0)) (Nat.le_of_ble_eq_true rfl) (Nat.le_of_ble_eq_true rfl) ?_
  exact law_loop X2 hLC hN2 (fun z M lv h1 h2 => hret k2 z M lv X2 h1 h2) (L + 1) 0 M2 (by omega) (Nat.zero_le _) ⟨0, [], [], [], fun _ => none, [], fun _ => 0, hS2, hR2, F2⟩
