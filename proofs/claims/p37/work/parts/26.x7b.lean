set_option maxHeartbeats 4000000 in
set_option maxRecDepth 100000 in
theorem c_X7_clearText (l : Launch) (k : KX) (M : Mem) (cs ds : List Nat) (mem : List SD) (sl : Nat → Option SD) (tx : List Nat) (hSol : SolAt k M cs ds mem sl tx) : CM l yX7_clearText cX7_clearText 2 ((some .int)) { frames := 0, cells := 0, slots := 0, locals := 0 } k [.ref (ad k 0)] M (pI (fun r M' => (r = nI tx.length) ∧ SolAt k M' cs ds mem sl [] ∧ Fr 0 93 M M')) := by
  refine CM.of (by decide) (Nat.le_of_ble_eq_true rfl) (fun C X hCl hCR rq => ?_)
  show V C k 2 (0, 0) M 0 [(0, .ref (ad k 0))] []
  obtain ⟨hN, F0, hTx, hS, hT, hMe, hMo, hEl, ⟨cs2, ds2, hS2⟩, ⟨tr2, cf2, hT2⟩, hV⟩ := id hSol
  have ho2 : csOK cs := hV.1.1
  have hds : ∀ d ∈ ds, d < 16 := hV.1.2.1
  have hlc : cs.length ≤ 24 := ho2.1
  have hld : ds.length ≤ 8 := hV.1.2.2
  have hok := cAt_ok ho2
  have hTL := hV.2.1
  refine v_aload_n X 0 dX7_clearText_0 rfl ?_
  refine v_get X cls7 F0 (by omega) 0 (by decide) m_249 rfl rfl dX7_clearText_1 ?_
  obtain ⟨h9_1, hch_2, s_3, f_4, ⟨hN_5, F1_6, hF_7⟩, F2_8, hf_9⟩ := id hTx
  refine v_getN X cls2 F1_6 (by omega) 1 (by decide) nw_6 rfl rfl dX7_clearText_4 ?_
  refine v_istore_n X [(1, .int (nI tx.length)), (0, .ref (ad k 0))] dX7_clearText_7 (by decide) rfl ?_
  refine v_aload_n X 1 dX7_clearText_8 rfl ?_
  refine v_get X cls7 F0 (by omega) 0 (by decide) m_249 rfl rfl dX7_clearText_9 ?_
  refine v_iconst X (v := nI 0) (by decide) dX7_clearText_12 ?_
  refine v_putN X cls2 F1_6 (by omega) 1 (by decide) nw_6 rfl rfl rfl rfl (Nat.le_of_ble_eq_true rfl) dX7_clearText_13 (fun M_10 hM_11 => ?_)
  have F_12 : M_10 0 = .inr (7, [.ref (ad k 1), .ref (ad k 5), .ref (ad k 9), .ref (ad k 13), .ref (ad k 17), .ref (ad k 19), .ref (ad k 21), .ref (ad k 25)]) := by rw [hM_11, mup_n (by omega)]; exact F0
  have F_13 : M_10 1 = .inr (2, [.ref (ad k 2), .int (nI 0), .ref (ad k 3), .int (nI s_3.2.1), .int (nI s_3.2.2.1), .int (nI s_3.2.2.2)]) := by rw [hM_11]; exact mup_s
  have F_14 : M_10 2 = .inl (kI k, 90, .inl (fun zq => nI (f_4 zq))) := by rw [hM_11, mup_n (by omega)]; exact F2_8
  have P_15 : StAt k M_10 5 cs ds := hS.fr (fun i h1 h2 => by rw [hM_11, mup_n (by omega)])
  have P_16 : TrAt k M_10 9 (build cs ds).1 (build cs ds).2 := hT.fr (fun i h1 h2 => by rw [hM_11, mup_n (by omega)])
  have P_17 : MeAt k M_10 mem sl := hMe.fr (fun i h1 h2 => by rw [hM_11, mup_n (by omega)])
  have P_18 : MoAt k M_10 cs := hMo.fr (fun i h1 h2 => by rw [hM_11, mup_n (by omega)])
  have P_19 : ElAt k M_10  := hEl.fr (fun i h1 h2 => by rw [hM_11, mup_n (by omega)])
  have P_20 : StAt k M_10 21 cs2 ds2 := hS2.fr (fun i h1 h2 => by rw [hM_11, mup_n (by omega)])
  have P_21 : TrAt k M_10 25 tr2 cf2 := hT2.fr (fun i h1 h2 => by rw [hM_11, mup_n (by omega)])
  have P_22 : FmAt k M_10 3 s_3.1 := hF_7.fr (fun i h1 h2 => by rw [hM_11, mup_n (by omega)])
  have hTx2 : TxAt k M_10 [] := ⟨by decide, (fun c hc => by cases hc), s_3, f_4, ⟨hN_5, F_13, P_22⟩, F_14, (fun j hj => absurd hj (Nat.not_lt_zero _))⟩
  refine v_iload_n X 0 dX7_clearText_16 rfl ?_
  exact v_iret X rq ⟨by decide, by decide⟩ rfl dX7_clearText_17 ⟨_, rfl, rfl, ⟨hN, F_12, hTx2, P_15, P_16, P_17, P_18, P_19, ⟨_, _, P_20⟩, ⟨_, _, P_21⟩, hV⟩, (fun i hi => by rw [hM_11, mup_n (by omega)])⟩
set_option maxHeartbeats 4000000 in
set_option maxRecDepth 100000 in
theorem c_X7_constraintCount (l : Launch) (k : KX) (M : Mem) (cs ds : List Nat) (mem : List SD) (sl : Nat → Option SD) (tx : List Nat) (hSol : SolAt k M cs ds mem sl tx) : CM l yX7_constraintCount cX7_constraintCount 1 ((some .int)) { frames := 0, cells := 0, slots := 0, locals := 0 } k [.ref (ad k 0)] M (pI (fun r M' => (r = nI cs.length) ∧ SolAt k M' cs ds mem sl tx ∧ Fr 0 93 M M')) := by
  refine CM.of (by decide) (Nat.le_of_ble_eq_true rfl) (fun C X hCl hCR rq => ?_)
  show V C k 1 (0, 0) M 0 [(0, .ref (ad k 0))] []
  obtain ⟨hN, F0, hTx, hS, hT, hMe, hMo, hEl, ⟨cs2, ds2, hS2⟩, ⟨tr2, cf2, hT2⟩, hV⟩ := id hSol
  have ho2 : csOK cs := hV.1.1
  have hds : ∀ d ∈ ds, d < 16 := hV.1.2.1
  have hlc : cs.length ≤ 24 := ho2.1
  have hld : ds.length ≤ 8 := hV.1.2.2
  have hok := cAt_ok ho2
  have hTL := hV.2.1
  refine v_aload_n X 0 dX7_constraintCount_0 rfl ?_
  refine v_get X cls7 F0 (by omega) 1 (by decide) m_251 rfl rfl dX7_constraintCount_1 ?_
  obtain ⟨hN_1, hF_2, hl_3, g_4, F0_5, F3_6, hg_7⟩ := id hS
  refine v_getN X cls5 F0_5 (by omega) 0 (by decide) nw_11 rfl rfl dX7_constraintCount_4 ?_
  obtain ⟨hN_9, hl_10, f_8, F_11, F_12, hf_13⟩ := id hF_2
  refine v_getN X cls1 F_11 (by omega) 1 (by decide) nw_5 rfl rfl dX7_constraintCount_7 ?_
  exact v_iret X rq ⟨by decide, by decide⟩ rfl dX7_constraintCount_10 ⟨_, rfl, rfl, hSol, Fr.rf⟩
set_option maxHeartbeats 4000000 in
set_option maxRecDepth 100000 in
theorem c_X7_level (l : Launch) (k : KX) (M : Mem) (cs ds : List Nat) (mem : List SD) (sl : Nat → Option SD) (tx : List Nat) (hSol : SolAt k M cs ds mem sl tx) : CM l yX7_level cX7_level 1 ((some .int)) { frames := 0, cells := 0, slots := 0, locals := 0 } k [.ref (ad k 0)] M (pI (fun r M' => (r = nI ds.length) ∧ SolAt k M' cs ds mem sl tx ∧ Fr 0 93 M M')) := by
  refine CM.of (by decide) (Nat.le_of_ble_eq_true rfl) (fun C X hCl hCR rq => ?_)
  show V C k 1 (0, 0) M 0 [(0, .ref (ad k 0))] []
  obtain ⟨hN, F0, hTx, hS, hT, hMe, hMo, hEl, ⟨cs2, ds2, hS2⟩, ⟨tr2, cf2, hT2⟩, hV⟩ := id hSol
  have ho2 : csOK cs := hV.1.1
  have hds : ∀ d ∈ ds, d < 16 := hV.1.2.1
  have hlc : cs.length ≤ 24 := ho2.1
  have hld : ds.length ≤ 8 := hV.1.2.2
  have hok := cAt_ok ho2
  have hTL := hV.2.1
  refine v_aload_n X 0 dX7_level_0 rfl ?_
  refine v_get X cls7 F0 (by omega) 1 (by decide) m_251 rfl rfl dX7_level_1 ?_
  obtain ⟨hN_1, hF_2, hl_3, g_4, F0_5, F3_6, hg_7⟩ := id hS
  refine v_getN X cls5 F0_5 (by omega) 2 (by decide) nw_13 rfl rfl dX7_level_4 ?_
  exact v_iret X rq ⟨by decide, by decide⟩ rfl dX7_level_7 ⟨_, rfl, rfl, hSol, Fr.rf⟩
set_option maxHeartbeats 4000000 in
set_option maxRecDepth 100000 in
theorem c_X7_conflict (l : Launch) (k : KX) (M : Mem) (cs ds : List Nat) (mem : List SD) (sl : Nat → Option SD) (tx : List Nat) (hSol : SolAt k M cs ds mem sl tx) : CM l yX7_conflict cX7_conflict 1 ((some .int)) { frames := 0, cells := 0, slots := 0, locals := 0 } k [.ref (ad k 0)] M (pI (fun r M' => (r = oI (build cs ds).2) ∧ SolAt k M' cs ds mem sl tx ∧ Fr 0 93 M M')) := by
  refine CM.of (by decide) (Nat.le_of_ble_eq_true rfl) (fun C X hCl hCR rq => ?_)
  show V C k 1 (0, 0) M 0 [(0, .ref (ad k 0))] []
  obtain ⟨hN, F0, hTx, hS, hT, hMe, hMo, hEl, ⟨cs2, ds2, hS2⟩, ⟨tr2, cf2, hT2⟩, hV⟩ := id hSol
  have ho2 : csOK cs := hV.1.1
  have hds : ∀ d ∈ ds, d < 16 := hV.1.2.1
  have hlc : cs.length ≤ 24 := ho2.1
  have hld : ds.length ≤ 8 := hV.1.2.2
  have hok := cAt_ok ho2
  have hTL := hV.2.1
  refine v_aload_n X 0 dX7_conflict_0 rfl ?_
  refine v_get X cls7 F0 (by omega) 2 (by decide) m_254 rfl rfl dX7_conflict_1 ?_
  obtain ⟨hN_1, hk_2, hc_3, o_4, lv_5, rs_6, F0_7, F1_8, F2_9, F3_10, ho_11, hv_12⟩ := id hT
  have hk_2_A := hk_2.A
  have hk_2_T := hk_2.T
  have hk_2_B := hk_2.B
  have hk_2_l := hk_2.le
  have hk_2_L := tL_le ((build cs ds).1)
  refine v_getN X cls6 F0_7 (by omega) 8 (by decide) nw_16 rfl rfl dX7_conflict_4 ?_
  exact v_iret X rq ⟨by decide, by decide⟩ rfl dX7_conflict_7 ⟨_, rfl, rfl, hSol, Fr.rf⟩
set_option maxHeartbeats 4000000 in
set_option maxRecDepth 100000 in
theorem c_X7_isParity (l : Launch) (hst0 : l.stackTraces = false) (k : KX) (M : Mem) (cs ds : List Nat) (mem : List SD) (sl : Nat → Option SD) (tx : List Nat) (x : Int32) (hSol : SolAt k M cs ds mem sl tx) : CX l yX7_isParity cX7_isParity 2 ((some .boolean)) { frames := 7, cells := 1, slots := 6, locals := 111 } k [.ref (ad k 0), .int x] M (pI (fun r M' => ((∃ j, j < cs.length ∧ x = nI j ∧ r = bI (xPar (cAt cs j)))) ∧ SolAt k M' cs ds mem sl tx ∧ Fr 0 93 M M')) (fun E M' => (E = xIOB ∧ inL x cs.length = false) ∧ SolAt k M' cs ds mem sl tx ∧ Fr 0 93 M M') := by
  refine CX.of (by decide) (Nat.le_of_ble_eq_true rfl) (fun C X hCl hCR rx => ?_)
  have rq := rx.q
  have hst : (C_l C).stackTraces = false := by rw [hCl]; exact hst0
  show V C k 2 (0, 0) M 0 [(0, .ref (ad k 0)), (1, .int x)] []
  obtain ⟨hN, F0, hTx, hS, hT, hMe, hMo, hEl, ⟨cs2, ds2, hS2⟩, ⟨tr2, cf2, hT2⟩, hV⟩ := id hSol
  have ho2 : csOK cs := hV.1.1
  have hds : ∀ d ∈ ds, d < 16 := hV.1.2.1
  have hlc : cs.length ≤ 24 := ho2.1
  have hld : ds.length ≤ 8 := hV.1.2.2
  have hok := cAt_ok ho2
  have hTL := hV.2.1
  refine v_aload_n X 0 dX7_isParity_0 rfl ?_
  refine v_iload_n X 1 dX7_isParity_1 rfl ?_
  refine vx_callV' X rx.2.1 hCl hCR (c_X7_requireConstraint l hst0 k M cs ds x hN F0 hS) cls7 ⟨_, F0⟩ (by omega) mo_X7_requireConstraint m_303 m_308 m_309 m_310 m_21 (by decide) rfl rfl (Nat.le_of_ble_eq_true rfl) ⟨by decide, by decide⟩ dX7_isParity_2 (vV_in (fun M_1 hp_2 => ?_)) (fun E M_4 hx => v_out X rx ⟨by decide, by decide⟩ (⟨⟨hx.1, hx.2.1⟩, (by obtain ⟨-, -, rfl⟩ := hx; exact hSol), (by obtain ⟨-, -, rfl⟩ := hx; exact Fr.rf)⟩))
  obtain ⟨rfl, hq_3⟩ := hp_2
  have hq := hq_3
  obtain ⟨j, hj, rfl⟩ := inL_of (by omega) hq
  have hoj := hok j
  refine v_aload_n X 0 dX7_isParity_5 rfl ?_
  refine v_get X cls7 F0 (by omega) 1 (by decide) m_251 rfl rfl dX7_isParity_6 ?_
  obtain ⟨hN_5, hF_6, hl_7, g_8, F0_9, F3_10, hg_11⟩ := id hS
  refine v_getN X cls5 F0_9 (by omega) 0 (by decide) nw_11 rfl rfl dX7_isParity_9 ?_
  refine v_iload_n X 1 dX7_isParity_12 rfl ?_
  refine v_callV X hCl hCR (c_X1_codeAtN l k M 6 cs j hF_6 (by omega)) cls1 hF_6.obj (by omega) mo_X1_codeAt m_10 m_311 m_32 m_33 m_15 (by decide) rfl rfl (Nat.le_of_ble_eq_true rfl) ⟨rfl, rfl⟩ ⟨by decide, by decide⟩ dX7_isParity_13 (vP_in ?_)
  refine v_callS X hCl hCR (c_X7_isParityCode l k M (cAt cs j) (by omega)) mo_X7_isParityCode m_16 m_312 m_34 m_21 (by decide) rfl rfl (Nat.le_of_ble_eq_true rfl) ⟨rfl, rfl⟩ ⟨by decide, by decide⟩ dX7_isParity_16 (vP_in ?_)
  exact v_iret X rq ⟨by decide, by decide⟩ (narZ _) dX7_isParity_19 ⟨_, rfl, ⟨j, hj, rfl, rfl⟩, hSol, Fr.rf⟩
set_option maxHeartbeats 4000000 in
set_option maxRecDepth 100000 in
theorem c_X7_variables (l : Launch) (hst0 : l.stackTraces = false) (k : KX) (M : Mem) (cs ds : List Nat) (mem : List SD) (sl : Nat → Option SD) (tx : List Nat) (x : Int32) (hSol : SolAt k M cs ds mem sl tx) : CX l yX7_variables cX7_variables 2 ((some .int)) { frames := 7, cells := 1, slots := 6, locals := 111 } k [.ref (ad k 0), .int x] M (pI (fun r M' => ((∃ j, j < cs.length ∧ x = nI j ∧ r = nI (xFirst (cAt cs j)))) ∧ SolAt k M' cs ds mem sl tx ∧ Fr 0 93 M M')) (fun E M' => (E = xIOB ∧ inL x cs.length = false) ∧ SolAt k M' cs ds mem sl tx ∧ Fr 0 93 M M') := by
  refine CX.of (by decide) (Nat.le_of_ble_eq_true rfl) (fun C X hCl hCR rx => ?_)
  have rq := rx.q
  have hst : (C_l C).stackTraces = false := by rw [hCl]; exact hst0
  show V C k 2 (0, 0) M 0 [(0, .ref (ad k 0)), (1, .int x)] []
  obtain ⟨hN, F0, hTx, hS, hT, hMe, hMo, hEl, ⟨cs2, ds2, hS2⟩, ⟨tr2, cf2, hT2⟩, hV⟩ := id hSol
  have ho2 : csOK cs := hV.1.1
  have hds : ∀ d ∈ ds, d < 16 := hV.1.2.1
  have hlc : cs.length ≤ 24 := ho2.1
  have hld : ds.length ≤ 8 := hV.1.2.2
  have hok := cAt_ok ho2
  have hTL := hV.2.1
  refine v_aload_n X 0 dX7_variables_0 rfl ?_
  refine v_iload_n X 1 dX7_variables_1 rfl ?_
  refine vx_callV' X rx.2.1 hCl hCR (c_X7_requireConstraint l hst0 k M cs ds x hN F0 hS) cls7 ⟨_, F0⟩ (by omega) mo_X7_requireConstraint m_303 m_308 m_309 m_310 m_21 (by decide) rfl rfl (Nat.le_of_ble_eq_true rfl) ⟨by decide, by decide⟩ dX7_variables_2 (vV_in (fun M_1 hp_2 => ?_)) (fun E M_4 hx => v_out X rx ⟨by decide, by decide⟩ (⟨⟨hx.1, hx.2.1⟩, (by obtain ⟨-, -, rfl⟩ := hx; exact hSol), (by obtain ⟨-, -, rfl⟩ := hx; exact Fr.rf)⟩))
  obtain ⟨rfl, hq_3⟩ := hp_2
  have hq := hq_3
  obtain ⟨j, hj, rfl⟩ := inL_of (by omega) hq
  have hoj := hok j
  refine v_aload_n X 0 dX7_variables_5 rfl ?_
  refine v_get X cls7 F0 (by omega) 1 (by decide) m_251 rfl rfl dX7_variables_6 ?_
  obtain ⟨hN_5, hF_6, hl_7, g_8, F0_9, F3_10, hg_11⟩ := id hS
  refine v_getN X cls5 F0_9 (by omega) 0 (by decide) nw_11 rfl rfl dX7_variables_9 ?_
  refine v_iload_n X 1 dX7_variables_12 rfl ?_
  refine v_callV X hCl hCR (c_X1_codeAtN l k M 6 cs j hF_6 (by omega)) cls1 hF_6.obj (by omega) mo_X1_codeAt m_10 m_311 m_32 m_33 m_15 (by decide) rfl rfl (Nat.le_of_ble_eq_true rfl) ⟨rfl, rfl⟩ ⟨by decide, by decide⟩ dX7_variables_13 (vP_in ?_)
  refine v_callS X hCl hCR (c_X7_firstPart l k M (cAt cs j)) mo_X7_firstPart m_22 m_314 m_27 m_21 (by decide) rfl rfl (Nat.le_of_ble_eq_true rfl) ⟨rfl, rfl⟩ ⟨by decide, by decide⟩ dX7_variables_16 (vP_in ?_)
  exact v_iret X rq ⟨by decide, by decide⟩ rfl dX7_variables_19 ⟨_, rfl, ⟨j, hj, rfl, rfl⟩, hSol, Fr.rf⟩
set_option maxHeartbeats 4000000 in
set_option maxRecDepth 100000 in
theorem c_X7_negated (l : Launch) (hst0 : l.stackTraces = false) (k : KX) (M : Mem) (cs ds : List Nat) (mem : List SD) (sl : Nat → Option SD) (tx : List Nat) (x : Int32) (hSol : SolAt k M cs ds mem sl tx) : CX l yX7_negated cX7_negated 2 ((some .int)) { frames := 7, cells := 1, slots := 6, locals := 111 } k [.ref (ad k 0), .int x] M (pI (fun r M' => ((∃ j, j < cs.length ∧ x = nI j ∧ r = nI (xSecond (cAt cs j)))) ∧ SolAt k M' cs ds mem sl tx ∧ Fr 0 93 M M')) (fun E M' => (E = xIOB ∧ inL x cs.length = false) ∧ SolAt k M' cs ds mem sl tx ∧ Fr 0 93 M M') := by
  refine CX.of (by decide) (Nat.le_of_ble_eq_true rfl) (fun C X hCl hCR rx => ?_)
  have rq := rx.q
  have hst : (C_l C).stackTraces = false := by rw [hCl]; exact hst0
  show V C k 2 (0, 0) M 0 [(0, .ref (ad k 0)), (1, .int x)] []
  obtain ⟨hN, F0, hTx, hS, hT, hMe, hMo, hEl, ⟨cs2, ds2, hS2⟩, ⟨tr2, cf2, hT2⟩, hV⟩ := id hSol
  have ho2 : csOK cs := hV.1.1
  have hds : ∀ d ∈ ds, d < 16 := hV.1.2.1
  have hlc : cs.length ≤ 24 := ho2.1
  have hld : ds.length ≤ 8 := hV.1.2.2
  have hok := cAt_ok ho2
  have hTL := hV.2.1
  refine v_aload_n X 0 dX7_negated_0 rfl ?_
  refine v_iload_n X 1 dX7_negated_1 rfl ?_
  refine vx_callV' X rx.2.1 hCl hCR (c_X7_requireConstraint l hst0 k M cs ds x hN F0 hS) cls7 ⟨_, F0⟩ (by omega) mo_X7_requireConstraint m_303 m_308 m_309 m_310 m_21 (by decide) rfl rfl (Nat.le_of_ble_eq_true rfl) ⟨by decide, by decide⟩ dX7_negated_2 (vV_in (fun M_1 hp_2 => ?_)) (fun E M_4 hx => v_out X rx ⟨by decide, by decide⟩ (⟨⟨hx.1, hx.2.1⟩, (by obtain ⟨-, -, rfl⟩ := hx; exact hSol), (by obtain ⟨-, -, rfl⟩ := hx; exact Fr.rf)⟩))
  obtain ⟨rfl, hq_3⟩ := hp_2
  have hq := hq_3
  obtain ⟨j, hj, rfl⟩ := inL_of (by omega) hq
  have hoj := hok j
  refine v_aload_n X 0 dX7_negated_5 rfl ?_
  refine v_get X cls7 F0 (by omega) 1 (by decide) m_251 rfl rfl dX7_negated_6 ?_
  obtain ⟨hN_5, hF_6, hl_7, g_8, F0_9, F3_10, hg_11⟩ := id hS
  refine v_getN X cls5 F0_9 (by omega) 0 (by decide) nw_11 rfl rfl dX7_negated_9 ?_
  refine v_iload_n X 1 dX7_negated_12 rfl ?_
  refine v_callV X hCl hCR (c_X1_codeAtN l k M 6 cs j hF_6 (by omega)) cls1 hF_6.obj (by omega) mo_X1_codeAt m_10 m_311 m_32 m_33 m_15 (by decide) rfl rfl (Nat.le_of_ble_eq_true rfl) ⟨rfl, rfl⟩ ⟨by decide, by decide⟩ dX7_negated_13 (vP_in ?_)
  refine v_callS X hCl hCR (c_X7_secondPart l k M (cAt cs j) (by omega)) mo_X7_secondPart m_315 m_317 m_318 m_21 (by decide) rfl rfl (Nat.le_of_ble_eq_true rfl) ⟨rfl, rfl⟩ ⟨by decide, by decide⟩ dX7_negated_16 (vP_in ?_)
  exact v_iret X rq ⟨by decide, by decide⟩ rfl dX7_negated_19 ⟨_, rfl, ⟨j, hj, rfl, rfl⟩, hSol, Fr.rf⟩
set_option maxHeartbeats 4000000 in
set_option maxRecDepth 100000 in
theorem c_X7_value (l : Launch) (hst0 : l.stackTraces = false) (k : KX) (M : Mem) (cs ds : List Nat) (mem : List SD) (sl : Nat → Option SD) (tx : List Nat) (x : Int32) (hSol : SolAt k M cs ds mem sl tx) : CX l yX7_value cX7_value 2 ((some .int)) { frames := 7, cells := 1, slots := 6, locals := 110 } k [.ref (ad k 0), .int x] M (pI (fun r M' => ((∃ v, v < 8 ∧ x = nI v ∧ r = nI (if (tA (build cs ds).1).testBit v then (if (tT (build cs ds).1).testBit v then 1 else 0) else 2))) ∧ SolAt k M' cs ds mem sl tx ∧ Fr 0 93 M M')) (fun E M' => (E = xIOB ∧ inL x 8 = false) ∧ SolAt k M' cs ds mem sl tx ∧ Fr 0 93 M M') := by
  refine CX.of (by decide) (Nat.le_of_ble_eq_true rfl) (fun C X hCl hCR rx => ?_)
  have rq := rx.q
  have hst : (C_l C).stackTraces = false := by rw [hCl]; exact hst0
  show V C k 2 (0, 0) M 0 [(0, .ref (ad k 0)), (1, .int x)] []
  obtain ⟨hN, F0, hTx, hS, hT, hMe, hMo, hEl, ⟨cs2, ds2, hS2⟩, ⟨tr2, cf2, hT2⟩, hV⟩ := id hSol
  have ho2 : csOK cs := hV.1.1
  have hds : ∀ d ∈ ds, d < 16 := hV.1.2.1
  have hlc : cs.length ≤ 24 := ho2.1
  have hld : ds.length ≤ 8 := hV.1.2.2
  have hok := cAt_ok ho2
  have hTL := hV.2.1
  refine v_iload_n X 1 dX7_value_0 rfl ?_
  refine vx_callS' X rx.2.1 hCl hCR (c_X7_requireVariable l hst0 k M x) mo_X7_requireVariable m_349 m_351 m_352 m_21 (by decide) rfl rfl (Nat.le_of_ble_eq_true rfl) ⟨by decide, by decide⟩ dX7_value_1 (vV_in (fun M_1 hp_2 => ?_)) (fun E M_4 hx => v_out X rx ⟨by decide, by decide⟩ (⟨⟨hx.1, hx.2.1⟩, (by obtain ⟨-, -, rfl⟩ := hx; exact hSol), (by obtain ⟨-, -, rfl⟩ := hx; exact Fr.rf)⟩))
  obtain ⟨rfl, hq_3⟩ := hp_2
  have hq := hq_3
  obtain ⟨v, hv, rfl⟩ := inL_of (by omega) hq
  refine v_aload_n X 0 dX7_value_4 rfl ?_
  refine v_get X cls7 F0 (by omega) 2 (by decide) m_254 rfl rfl dX7_value_5 ?_
  refine v_iload_n X 1 dX7_value_8 rfl ?_
  refine v_callV X hCl hCR (c_X6_isAssigned l k M 9 (build cs ds).1 (build cs ds).2 v hT (by omega)) cls6 hT.obj (by omega) mo_X6_isAssigned m_207 m_356 m_211 m_212 m_204 (by decide) rfl rfl (Nat.le_of_ble_eq_true rfl) ⟨rfl, rfl⟩ ⟨by decide, by decide⟩ dX7_value_9 (vP_in ?_)
  refine v_ineB X 17 dX7_value_12 (by decide) (fun c_5 => ?_) (fun c_5 => ?_)
  · have h12 := c_5
    refine v_aload_n X 0 dX7_value_17 rfl ?_
    refine v_get X cls7 F0 (by omega) 2 (by decide) m_254 rfl rfl dX7_value_18 ?_
    refine v_iload_n X 1 dX7_value_21 rfl ?_
    refine v_callV X hCl hCR (c_X6_isTrue l k M 9 (build cs ds).1 (build cs ds).2 v hT (by omega)) cls6 hT.obj (by omega) mo_X6_isTrue m_232 m_385 m_235 m_236 m_204 (by decide) rfl rfl (Nat.le_of_ble_eq_true rfl) ⟨rfl, rfl⟩ ⟨by decide, by decide⟩ dX7_value_22 (vP_in ?_)
    refine v_ieqB X 32 dX7_value_25 (by decide) (fun c_6 => ?_) (fun c_6 => ?_)
    · have h25 := c_6
      refine v_iconst X (v := nI 0) (by decide) dX7_value_32 ?_
      exact v_iret X rq ⟨by decide, by decide⟩ rfl dX7_value_33 ⟨_, rfl, ⟨v, hv, rfl, by rw [h12, h25]; rfl⟩, hSol, Fr.rf⟩
    · have h25 := c_6
      refine v_iconst X (v := nI 1) (by decide) dX7_value_28 ?_
      refine v_goto X 33 dX7_value_29 (by decide) ?_
      exact v_iret X rq ⟨by decide, by decide⟩ rfl dX7_value_33 ⟨_, rfl, ⟨v, hv, rfl, by rw [h12, h25]; rfl⟩, hSol, Fr.rf⟩
  · have h12 := c_5
    refine v_iconst X (v := nI 2) (by decide) dX7_value_15 ?_
    exact v_iret X rq ⟨by decide, by decide⟩ rfl dX7_value_16 ⟨_, rfl, ⟨v, hv, rfl, by rw [h12]; rfl⟩, hSol, Fr.rf⟩
set_option maxHeartbeats 4000000 in
set_option maxRecDepth 100000 in
theorem c_X7_reason (l : Launch) (hst0 : l.stackTraces = false) (k : KX) (M : Mem) (cs ds : List Nat) (mem : List SD) (sl : Nat → Option SD) (tx : List Nat) (x : Int32) (hSol : SolAt k M cs ds mem sl tx) : CX l yX7_reason cX7_reason 2 ((some .int)) { frames := 7, cells := 1, slots := 6, locals := 110 } k [.ref (ad k 0), .int x] M (pI (fun r M' => ((∃ v, v < 8 ∧ x = nI v ∧ r = oI (tRsn (build cs ds).1 v))) ∧ SolAt k M' cs ds mem sl tx ∧ Fr 0 93 M M')) (fun E M' => (E = xIOB ∧ inL x 8 = false) ∧ SolAt k M' cs ds mem sl tx ∧ Fr 0 93 M M') := by
  refine CX.of (by decide) (Nat.le_of_ble_eq_true rfl) (fun C X hCl hCR rx => ?_)
  have rq := rx.q
  have hst : (C_l C).stackTraces = false := by rw [hCl]; exact hst0
  show V C k 2 (0, 0) M 0 [(0, .ref (ad k 0)), (1, .int x)] []
  obtain ⟨hN, F0, hTx, hS, hT, hMe, hMo, hEl, ⟨cs2, ds2, hS2⟩, ⟨tr2, cf2, hT2⟩, hV⟩ := id hSol
  have ho2 : csOK cs := hV.1.1
  have hds : ∀ d ∈ ds, d < 16 := hV.1.2.1
  have hlc : cs.length ≤ 24 := ho2.1
  have hld : ds.length ≤ 8 := hV.1.2.2
  have hok := cAt_ok ho2
  have hTL := hV.2.1
  refine v_iload_n X 1 dX7_reason_0 rfl ?_
  refine vx_callS' X rx.2.1 hCl hCR (c_X7_requireVariable l hst0 k M x) mo_X7_requireVariable m_349 m_351 m_352 m_21 (by decide) rfl rfl (Nat.le_of_ble_eq_true rfl) ⟨by decide, by decide⟩ dX7_reason_1 (vV_in (fun M_1 hp_2 => ?_)) (fun E M_4 hx => v_out X rx ⟨by decide, by decide⟩ (⟨⟨hx.1, hx.2.1⟩, (by obtain ⟨-, -, rfl⟩ := hx; exact hSol), (by obtain ⟨-, -, rfl⟩ := hx; exact Fr.rf)⟩))
  obtain ⟨rfl, hq_3⟩ := hp_2
  have hq := hq_3
  obtain ⟨v, hv, rfl⟩ := inL_of (by omega) hq
  refine v_aload_n X 0 dX7_reason_4 rfl ?_
  refine v_get X cls7 F0 (by omega) 2 (by decide) m_254 rfl rfl dX7_reason_5 ?_
  refine v_iload_n X 1 dX7_reason_8 rfl ?_
  refine v_callV X hCl hCR (c_X6_reasonOf l k M 9 (build cs ds).1 (build cs ds).2 v hT (by omega)) cls6 hT.obj (by omega) mo_X6_reasonOf m_237 m_391 m_240 m_241 m_204 (by decide) rfl rfl (Nat.le_of_ble_eq_true rfl) ⟨rfl, rfl⟩ ⟨by decide, by decide⟩ dX7_reason_9 (vP_in ?_)
  exact v_iret X rq ⟨by decide, by decide⟩ rfl dX7_reason_12 ⟨_, rfl, ⟨v, hv, rfl, rfl⟩, hSol, Fr.rf⟩
set_option maxHeartbeats 4000000 in
set_option maxRecDepth 100000 in
theorem c_X7_trailLiteral (l : Launch) (hst0 : l.stackTraces = false) (k : KX) (M : Mem) (cs ds : List Nat) (mem : List SD) (sl : Nat → Option SD) (tx : List Nat) (x : Int32) (hSol : SolAt k M cs ds mem sl tx) : CX l yX7_trailLiteral cX7_trailLiteral 2 ((some .int)) { frames := 6, cells := 1, slots := 6, locals := 90 } k [.ref (ad k 0), .int x] M (pI (fun r M' => ((∃ j, j < (build cs ds).1.length ∧ x = nI j ∧ r = nI (2 * tOrd (build cs ds).1 j + (if (tT (build cs ds).1).testBit (tOrd (build cs ds).1 j) then 0 else 1)))) ∧ SolAt k M' cs ds mem sl tx ∧ Fr 0 93 M M')) (fun E M' => (E = xIOB ∧ inL x (build cs ds).1.length = false) ∧ SolAt k M' cs ds mem sl tx ∧ Fr 0 93 M M') := by
  refine CX.of (by decide) (Nat.le_of_ble_eq_true rfl) (fun C X hCl hCR rx => ?_)
  have rq := rx.q
  have hst : (C_l C).stackTraces = false := by rw [hCl]; exact hst0
  show V C k 2 (0, 0) M 0 [(0, .ref (ad k 0)), (1, .int x)] []
  obtain ⟨hN, F0, hTx, hS, hT, hMe, hMo, hEl, ⟨cs2, ds2, hS2⟩, ⟨tr2, cf2, hT2⟩, hV⟩ := id hSol
  have ho2 : csOK cs := hV.1.1
  have hds : ∀ d ∈ ds, d < 16 := hV.1.2.1
  have hlc : cs.length ≤ 24 := ho2.1
  have hld : ds.length ≤ 8 := hV.1.2.2
  have hok := cAt_ok ho2
  have hTL := hV.2.1
  refine v_iload_n X 1 dX7_trailLiteral_0 rfl ?_
  refine v_if_lt X 15 dX7_trailLiteral_1 (by decide) (fun c_1 => ?_) (fun c_1 => ?_)
  · exact v_throwS X rx hCR hst rfl (Or.inr (Or.inr rfl)) m_304 m_305 (List.mem_of_getElem? (i := 19) rfl) inE2 bad168 ot168 dX7_trailLiteral_15 dX7_trailLiteral_18 dX7_trailLiteral_19 dX7_trailLiteral_21 dX7_trailLiteral_24 (by decide) (Nat.le_of_ble_eq_true rfl) (by decide) (by decide) ⟨⟨rfl, by simp_all [inL, nI_0']⟩, hSol, Fr.rf⟩
  · refine v_iload_n X 1 dX7_trailLiteral_4 rfl ?_
    refine v_aload_n X 0 dX7_trailLiteral_5 rfl ?_
    refine v_get X cls7 F0 (by omega) 2 (by decide) m_254 rfl rfl dX7_trailLiteral_6 ?_
    obtain ⟨hN_2, hk_3, hc_4, o_5, lv_6, rs_7, F0_8, F1_9, F2_10, F3_11, ho_12, hv_13⟩ := id hT
    have hk_3_A := hk_3.A
    have hk_3_T := hk_3.T
    have hk_3_B := hk_3.B
    have hk_3_l := hk_3.le
    have hk_3_L := tL_le ((build cs ds).1)
    refine v_getN X cls6 F0_8 (by omega) 3 (by decide) nw_15 rfl rfl dX7_trailLiteral_9 ?_
    refine v_icmp_lt X 25 dX7_trailLiteral_12 (by decide) (fun c_14 => ?_) (fun c_14 => ?_)
    · have hq : inL x (build cs ds).1.length = true := by simp_all [inL, nI_0']
      have hle8 := hT.2.1.le
      obtain ⟨j, hj, rfl⟩ := inL_of (by omega) hq
      refine v_aload_n X 0 dX7_trailLiteral_25 rfl ?_
      refine v_get X cls7 F0 (by omega) 2 (by decide) m_254 rfl rfl dX7_trailLiteral_26 ?_
      refine v_iload_n X 1 dX7_trailLiteral_29 rfl ?_
      refine v_callV X hCl hCR (c_X6_literalAt l k M 9 (build cs ds).1 (build cs ds).2 j hT (by omega)) cls6 ⟨_, F0_8⟩ (by omega) mo_X6_literalAt m_233 m_387 m_388 m_389 m_204 (by decide) rfl rfl (Nat.le_of_ble_eq_true rfl) ⟨rfl, rfl⟩ ⟨by decide, by decide⟩ dX7_trailLiteral_30 (vP_in ?_)
      exact v_iret X rq ⟨by decide, by decide⟩ rfl dX7_trailLiteral_33 ⟨_, rfl, ⟨j, hj, rfl, rfl⟩, hSol, Fr.rf⟩
    · exact v_throwS X rx hCR hst rfl (Or.inr (Or.inr rfl)) m_304 m_305 (List.mem_of_getElem? (i := 19) rfl) inE2 bad168 ot168 dX7_trailLiteral_15 dX7_trailLiteral_18 dX7_trailLiteral_19 dX7_trailLiteral_21 dX7_trailLiteral_24 (by decide) (Nat.le_of_ble_eq_true rfl) (by decide) (by decide) ⟨⟨rfl, by simp_all [inL, nI_0']⟩, hSol, Fr.rf⟩
set_option maxHeartbeats 4000000 in
set_option maxRecDepth 100000 in
theorem c_X7_modelCount (l : Launch) (k : KX) (M : Mem) (cs ds : List Nat) (mem : List SD) (sl : Nat → Option SD) (tx : List Nat) (hSol : SolAt k M cs ds mem sl tx) : CM l yX7_modelCount cX7_modelCount 1 ((some .int)) { frames := 4, cells := 0, slots := 0, locals := 88 } k [.ref (ad k 0)] M (pI (fun r M' => (r = nI (cntP (isMod cs) 256)) ∧ SolAt k M' cs ds mem sl tx ∧ Fr 0 93 M M')) := by
  refine CM.of (by decide) (Nat.le_of_ble_eq_true rfl) (fun C X hCl hCR rq => ?_)
  show V C k 1 (0, 0) M 0 [(0, .ref (ad k 0))] []
  obtain ⟨hN, F0, hTx, hS, hT, hMe, hMo, hEl, ⟨cs2, ds2, hS2⟩, ⟨tr2, cf2, hT2⟩, hV⟩ := id hSol
  have ho2 : csOK cs := hV.1.1
  have hds : ∀ d ∈ ds, d < 16 := hV.1.2.1
  have hlc : cs.length ≤ 24 := ho2.1
  have hld : ds.length ≤ 8 := hV.1.2.2
  have hok := cAt_ok ho2
  have hTL := hV.2.1
  refine v_aload_n X 0 dX7_modelCount_0 rfl ?_
  refine v_get X cls7 F0 (by omega) 4 (by decide) m_260 rfl rfl dX7_modelCount_1 ?_
  refine v_aload_n X 0 dX7_modelCount_4 rfl ?_
  refine v_get X cls7 F0 (by omega) 1 (by decide) m_251 rfl rfl dX7_modelCount_5 ?_
  obtain ⟨hN_1, hF_2, hl_3, g_4, F0_5, F3_6, hg_7⟩ := id hS
  refine v_getN X cls5 F0_5 (by omega) 0 (by decide) nw_11 rfl rfl dX7_modelCount_8 ?_
  refine v_callV X hCl hCR (c_X4_refresh l k M cs 6 hMo hF_2 ho2 (by omega)) cls4 hMo.obj (by omega) mo_X4_refresh m_170 m_394 m_395 m_396 m_169 (by decide) rfl rfl (Nat.le_of_ble_eq_true rfl) ⟨rfl, rfl⟩ ⟨by decide, by decide⟩ dX7_modelCount_11 (vV_in (fun M_8 hp_9 => ?_))
  obtain ⟨P_11, hfr_10⟩ := hp_9
  have F_12 : M_8 0 = .inr (7, [.ref (ad k 1), .ref (ad k 5), .ref (ad k 9), .ref (ad k 13), .ref (ad k 17), .ref (ad k 19), .ref (ad k 21), .ref (ad k 25)]) := by rw [hfr_10 0 (by omega)]; exact F0
  have F_13 : M_8 5 = .inr (5, [.ref (ad k 6), .ref (ad k 8), .int (nI ds.length)]) := by rw [hfr_10 5 (by omega)]; exact F0_5
  have F_14 : M_8 8 = .inl (kI k, 8, .inl (fun zq => nI (g_4 zq))) := by rw [hfr_10 8 (by omega)]; exact F3_6
  have P_15 : TxAt k M_8 tx := hTx.fr (fun i h1 h2 => hfr_10 i (by omega))
  have P_16 : StAt k M_8 5 cs ds := hS.fr (fun i h1 h2 => hfr_10 i (by omega))
  have P_17 : TrAt k M_8 9 (build cs ds).1 (build cs ds).2 := hT.fr (fun i h1 h2 => hfr_10 i (by omega))
  have P_18 : MeAt k M_8 mem sl := hMe.fr (fun i h1 h2 => hfr_10 i (by omega))
  have P_19 : ElAt k M_8  := hEl.fr (fun i h1 h2 => hfr_10 i (by omega))
  have P_20 : StAt k M_8 21 cs2 ds2 := hS2.fr (fun i h1 h2 => hfr_10 i (by omega))
  have P_21 : TrAt k M_8 25 tr2 cf2 := hT2.fr (fun i h1 h2 => hfr_10 i (by omega))
  have P_22 : FmAt k M_8 6 cs := hF_2.fr (fun i h1 h2 => hfr_10 i (by omega))
  refine v_aload_n X 0 dX7_modelCount_14 rfl ?_
  refine v_get X cls7 F_12 (by omega) 4 (by decide) m_260 rfl rfl dX7_modelCount_15 ?_
  refine v_callV X hCl hCR (c_X4_countModels l k M_8 cs P_11 (by omega)) cls4 P_11.obj (by omega) mo_X4_countModels m_171 m_397 m_398 m_399 m_169 (by decide) rfl rfl (Nat.le_of_ble_eq_true rfl) ⟨rfl, rfl⟩ ⟨by decide, by decide⟩ dX7_modelCount_18 (vP_in ?_)
  exact v_iret X rq ⟨by decide, by decide⟩ rfl dX7_modelCount_21 ⟨_, rfl, rfl, ⟨hN, F_12, P_15, P_16, P_17, P_18, P_11.at, P_19, ⟨_, _, P_20⟩, ⟨_, _, P_21⟩, hV⟩, (fun i hi => by rw [hfr_10 i (by omega)])⟩
set_option maxHeartbeats 4000000 in
set_option maxRecDepth 100000 in
theorem c_X7_model (l : Launch) (k : KX) (M : Mem) (cs ds : List Nat) (mem : List SD) (sl : Nat → Option SD) (tx : List Nat) (x : Int32) (hSol : SolAt k M cs ds mem sl tx) : CM l yX7_model cX7_model 2 ((some .int)) { frames := 4, cells := 0, slots := 0, locals := 88 } k [.ref (ad k 0), .int x] M (pI (fun r M' => (r = oI (nthF (isMod cs) x 256 0 0)) ∧ SolAt k M' cs ds mem sl tx ∧ Fr 0 93 M M')) := by
  refine CM.of (by decide) (Nat.le_of_ble_eq_true rfl) (fun C X hCl hCR rq => ?_)
  show V C k 2 (0, 0) M 0 [(0, .ref (ad k 0)), (1, .int x)] []
  obtain ⟨hN, F0, hTx, hS, hT, hMe, hMo, hEl, ⟨cs2, ds2, hS2⟩, ⟨tr2, cf2, hT2⟩, hV⟩ := id hSol
  have ho2 : csOK cs := hV.1.1
  have hds : ∀ d ∈ ds, d < 16 := hV.1.2.1
  have hlc : cs.length ≤ 24 := ho2.1
  have hld : ds.length ≤ 8 := hV.1.2.2
  have hok := cAt_ok ho2
  have hTL := hV.2.1
  refine v_aload_n X 0 dX7_model_0 rfl ?_
  refine v_get X cls7 F0 (by omega) 4 (by decide) m_260 rfl rfl dX7_model_1 ?_
  refine v_aload_n X 0 dX7_model_4 rfl ?_
  refine v_get X cls7 F0 (by omega) 1 (by decide) m_251 rfl rfl dX7_model_5 ?_
  obtain ⟨hN_1, hF_2, hl_3, g_4, F0_5, F3_6, hg_7⟩ := id hS
  refine v_getN X cls5 F0_5 (by omega) 0 (by decide) nw_11 rfl rfl dX7_model_8 ?_
  refine v_callV X hCl hCR (c_X4_refresh l k M cs 6 hMo hF_2 ho2 (by omega)) cls4 hMo.obj (by omega) mo_X4_refresh m_170 m_394 m_395 m_396 m_169 (by decide) rfl rfl (Nat.le_of_ble_eq_true rfl) ⟨rfl, rfl⟩ ⟨by decide, by decide⟩ dX7_model_11 (vV_in (fun M_8 hp_9 => ?_))
  obtain ⟨P_11, hfr_10⟩ := hp_9
  have F_12 : M_8 0 = .inr (7, [.ref (ad k 1), .ref (ad k 5), .ref (ad k 9), .ref (ad k 13), .ref (ad k 17), .ref (ad k 19), .ref (ad k 21), .ref (ad k 25)]) := by rw [hfr_10 0 (by omega)]; exact F0
  have F_13 : M_8 5 = .inr (5, [.ref (ad k 6), .ref (ad k 8), .int (nI ds.length)]) := by rw [hfr_10 5 (by omega)]; exact F0_5
  have F_14 : M_8 8 = .inl (kI k, 8, .inl (fun zq => nI (g_4 zq))) := by rw [hfr_10 8 (by omega)]; exact F3_6
  have P_15 : TxAt k M_8 tx := hTx.fr (fun i h1 h2 => hfr_10 i (by omega))
  have P_16 : StAt k M_8 5 cs ds := hS.fr (fun i h1 h2 => hfr_10 i (by omega))
  have P_17 : TrAt k M_8 9 (build cs ds).1 (build cs ds).2 := hT.fr (fun i h1 h2 => hfr_10 i (by omega))
  have P_18 : MeAt k M_8 mem sl := hMe.fr (fun i h1 h2 => hfr_10 i (by omega))
  have P_19 : ElAt k M_8  := hEl.fr (fun i h1 h2 => hfr_10 i (by omega))
  have P_20 : StAt k M_8 21 cs2 ds2 := hS2.fr (fun i h1 h2 => hfr_10 i (by omega))
  have P_21 : TrAt k M_8 25 tr2 cf2 := hT2.fr (fun i h1 h2 => hfr_10 i (by omega))
  have P_22 : FmAt k M_8 6 cs := hF_2.fr (fun i h1 h2 => hfr_10 i (by omega))
  refine v_aload_n X 0 dX7_model_14 rfl ?_
  refine v_get X cls7 F_12 (by omega) 4 (by decide) m_260 rfl rfl dX7_model_15 ?_
  refine v_iload_n X 1 dX7_model_18 rfl ?_
  refine v_callV X hCl hCR (c_X4_modelAt l k M_8 cs x P_11 (by omega)) cls4 P_11.obj (by omega) mo_X4_modelAt m_172 m_401 m_402 m_403 m_169 (by decide) rfl rfl (Nat.le_of_ble_eq_true rfl) ⟨rfl, rfl⟩ ⟨by decide, by decide⟩ dX7_model_19 (vP_in ?_)
  exact v_iret X rq ⟨by decide, by decide⟩ rfl dX7_model_22 ⟨_, rfl, rfl, ⟨hN, F_12, P_15, P_16, P_17, P_18, P_11.at, P_19, ⟨_, _, P_20⟩, ⟨_, _, P_21⟩, hV⟩, (fun i hi => by rw [hfr_10 i (by omega)])⟩
set_option maxHeartbeats 4000000 in
set_option maxRecDepth 100000 in
theorem c_X7_rank (l : Launch) (k : KX) (M : Mem) (cs ds : List Nat) (mem : List SD) (sl : Nat → Option SD) (tx : List Nat) (hSol : SolAt k M cs ds mem sl tx) : CM l yX7_rank cX7_rank 1 ((some .int)) { frames := 4, cells := 0, slots := 0, locals := 88 } k [.ref (ad k 0)] M (pI (fun r M' => (r = nI (elRun cs).2.1) ∧ SolAt k M' cs ds mem sl tx ∧ Fr 0 93 M M')) := by
  refine CM.of (by decide) (Nat.le_of_ble_eq_true rfl) (fun C X hCl hCR rq => ?_)
  show V C k 1 (0, 0) M 0 [(0, .ref (ad k 0))] []
  obtain ⟨hN, F0, hTx, hS, hT, hMe, hMo, hEl, ⟨cs2, ds2, hS2⟩, ⟨tr2, cf2, hT2⟩, hV⟩ := id hSol
  have ho2 : csOK cs := hV.1.1
  have hds : ∀ d ∈ ds, d < 16 := hV.1.2.1
  have hlc : cs.length ≤ 24 := ho2.1
  have hld : ds.length ≤ 8 := hV.1.2.2
  have hok := cAt_ok ho2
  have hTL := hV.2.1
  refine v_aload_n X 0 dX7_rank_0 rfl ?_
  refine v_get X cls7 F0 (by omega) 5 (by decide) m_263 rfl rfl dX7_rank_1 ?_
  refine v_aload_n X 0 dX7_rank_4 rfl ?_
  refine v_get X cls7 F0 (by omega) 1 (by decide) m_251 rfl rfl dX7_rank_5 ?_
  obtain ⟨hN_1, hF_2, hl_3, g_4, F0_5, F3_6, hg_7⟩ := id hS
  refine v_getN X cls5 F0_5 (by omega) 0 (by decide) nw_11 rfl rfl dX7_rank_8 ?_
  refine v_callV X hCl hCR (c_X0_run l k M 6 cs hEl hF_2 ho2 (by omega)) cls0 hEl.obj (by omega) mo_X0_run m_42 m_414 m_415 m_416 m_38 (by decide) rfl rfl (Nat.le_of_ble_eq_true rfl) ⟨rfl, rfl⟩ ⟨by decide, by decide⟩ dX7_rank_11 (vV_in (fun M_8 hp_9 => ?_))
  obtain ⟨P_11, hfr_10⟩ := hp_9
  have F_12 : M_8 0 = .inr (7, [.ref (ad k 1), .ref (ad k 5), .ref (ad k 9), .ref (ad k 13), .ref (ad k 17), .ref (ad k 19), .ref (ad k 21), .ref (ad k 25)]) := by rw [hfr_10 0 (by omega)]; exact F0
  have F_13 : M_8 5 = .inr (5, [.ref (ad k 6), .ref (ad k 8), .int (nI ds.length)]) := by rw [hfr_10 5 (by omega)]; exact F0_5
  have F_14 : M_8 8 = .inl (kI k, 8, .inl (fun zq => nI (g_4 zq))) := by rw [hfr_10 8 (by omega)]; exact F3_6
  have P_15 : TxAt k M_8 tx := hTx.fr (fun i h1 h2 => hfr_10 i (by omega))
  have P_16 : StAt k M_8 5 cs ds := hS.fr (fun i h1 h2 => hfr_10 i (by omega))
  have P_17 : TrAt k M_8 9 (build cs ds).1 (build cs ds).2 := hT.fr (fun i h1 h2 => hfr_10 i (by omega))
  have P_18 : MeAt k M_8 mem sl := hMe.fr (fun i h1 h2 => hfr_10 i (by omega))
  have P_19 : MoAt k M_8 cs := hMo.fr (fun i h1 h2 => hfr_10 i (by omega))
  have P_20 : StAt k M_8 21 cs2 ds2 := hS2.fr (fun i h1 h2 => hfr_10 i (by omega))
  have P_21 : TrAt k M_8 25 tr2 cf2 := hT2.fr (fun i h1 h2 => hfr_10 i (by omega))
  have P_22 : FmAt k M_8 6 cs := hF_2.fr (fun i h1 h2 => hfr_10 i (by omega))
  refine v_aload_n X 0 dX7_rank_14 rfl ?_
  refine v_get X cls7 F_12 (by omega) 5 (by decide) m_263 rfl rfl dX7_rank_15 ?_
  obtain ⟨hN_23, r_24, F_25, F_26, hr_27⟩ := id P_11
  refine v_getN X cls0 F_25 (by omega) 1 (by decide) nw_22 rfl rfl dX7_rank_18 ?_
  exact v_iret X rq ⟨by decide, by decide⟩ rfl dX7_rank_21 ⟨_, rfl, rfl, ⟨hN, F_12, P_15, P_16, P_17, P_18, P_19, P_11.at, ⟨_, _, P_20⟩, ⟨_, _, P_21⟩, hV⟩, (fun i hi => by rw [hfr_10 i (by omega)])⟩
set_option maxHeartbeats 4000000 in
set_option maxRecDepth 100000 in
theorem c_X7_isConsistent (l : Launch) (k : KX) (M : Mem) (cs ds : List Nat) (mem : List SD) (sl : Nat → Option SD) (tx : List Nat) (hSol : SolAt k M cs ds mem sl tx) : CM l yX7_isConsistent cX7_isConsistent 1 ((some .boolean)) { frames := 4, cells := 0, slots := 0, locals := 88 } k [.ref (ad k 0)] M (pI (fun r M' => (r = bI (elRun cs).2.2) ∧ SolAt k M' cs ds mem sl tx ∧ Fr 0 93 M M')) := by
  refine CM.of (by decide) (Nat.le_of_ble_eq_true rfl) (fun C X hCl hCR rq => ?_)
  show V C k 1 (0, 0) M 0 [(0, .ref (ad k 0))] []
  obtain ⟨hN, F0, hTx, hS, hT, hMe, hMo, hEl, ⟨cs2, ds2, hS2⟩, ⟨tr2, cf2, hT2⟩, hV⟩ := id hSol
  have ho2 : csOK cs := hV.1.1
  have hds : ∀ d ∈ ds, d < 16 := hV.1.2.1
  have hlc : cs.length ≤ 24 := ho2.1
  have hld : ds.length ≤ 8 := hV.1.2.2
  have hok := cAt_ok ho2
  have hTL := hV.2.1
  refine v_aload_n X 0 dX7_isConsistent_0 rfl ?_
  refine v_get X cls7 F0 (by omega) 5 (by decide) m_263 rfl rfl dX7_isConsistent_1 ?_
  refine v_aload_n X 0 dX7_isConsistent_4 rfl ?_
  refine v_get X cls7 F0 (by omega) 1 (by decide) m_251 rfl rfl dX7_isConsistent_5 ?_
  obtain ⟨hN_1, hF_2, hl_3, g_4, F0_5, F3_6, hg_7⟩ := id hS
  refine v_getN X cls5 F0_5 (by omega) 0 (by decide) nw_11 rfl rfl dX7_isConsistent_8 ?_
  refine v_callV X hCl hCR (c_X0_run l k M 6 cs hEl hF_2 ho2 (by omega)) cls0 hEl.obj (by omega) mo_X0_run m_42 m_414 m_415 m_416 m_38 (by decide) rfl rfl (Nat.le_of_ble_eq_true rfl) ⟨rfl, rfl⟩ ⟨by decide, by decide⟩ dX7_isConsistent_11 (vV_in (fun M_8 hp_9 => ?_))
  obtain ⟨P_11, hfr_10⟩ := hp_9
  have F_12 : M_8 0 = .inr (7, [.ref (ad k 1), .ref (ad k 5), .ref (ad k 9), .ref (ad k 13), .ref (ad k 17), .ref (ad k 19), .ref (ad k 21), .ref (ad k 25)]) := by rw [hfr_10 0 (by omega)]; exact F0
  have F_13 : M_8 5 = .inr (5, [.ref (ad k 6), .ref (ad k 8), .int (nI ds.length)]) := by rw [hfr_10 5 (by omega)]; exact F0_5
  have F_14 : M_8 8 = .inl (kI k, 8, .inl (fun zq => nI (g_4 zq))) := by rw [hfr_10 8 (by omega)]; exact F3_6
  have P_15 : TxAt k M_8 tx := hTx.fr (fun i h1 h2 => hfr_10 i (by omega))
  have P_16 : StAt k M_8 5 cs ds := hS.fr (fun i h1 h2 => hfr_10 i (by omega))
  have P_17 : TrAt k M_8 9 (build cs ds).1 (build cs ds).2 := hT.fr (fun i h1 h2 => hfr_10 i (by omega))
  have P_18 : MeAt k M_8 mem sl := hMe.fr (fun i h1 h2 => hfr_10 i (by omega))
  have P_19 : MoAt k M_8 cs := hMo.fr (fun i h1 h2 => hfr_10 i (by omega))
  have P_20 : StAt k M_8 21 cs2 ds2 := hS2.fr (fun i h1 h2 => hfr_10 i (by omega))
  have P_21 : TrAt k M_8 25 tr2 cf2 := hT2.fr (fun i h1 h2 => hfr_10 i (by omega))
  have P_22 : FmAt k M_8 6 cs := hF_2.fr (fun i h1 h2 => hfr_10 i (by omega))
  refine v_aload_n X 0 dX7_isConsistent_14 rfl ?_
  refine v_get X cls7 F_12 (by omega) 5 (by decide) m_263 rfl rfl dX7_isConsistent_15 ?_
  obtain ⟨hN_23, r_24, F_25, F_26, hr_27⟩ := id P_11
  refine v_getN X cls0 F_25 (by omega) 2 (by decide) nw_23 rfl rfl dX7_isConsistent_18 ?_
  exact v_iret X rq ⟨by decide, by decide⟩ (narZ _) dX7_isConsistent_21 ⟨_, rfl, rfl, ⟨hN, F_12, P_15, P_16, P_17, P_18, P_19, P_11.at, ⟨_, _, P_20⟩, ⟨_, _, P_21⟩, hV⟩, (fun i hi => by rw [hfr_10 i (by omega)])⟩
set_option maxHeartbeats 4000000 in
set_option maxRecDepth 100000 in
theorem c_X7_eliminatedRow (l : Launch) (hst0 : l.stackTraces = false) (k : KX) (M : Mem) (cs ds : List Nat) (mem : List SD) (sl : Nat → Option SD) (tx : List Nat) (x : Int32) (hSol : SolAt k M cs ds mem sl tx) : CX l yX7_eliminatedRow cX7_eliminatedRow 2 ((some .int)) { frames := 6, cells := 1, slots := 6, locals := 90 } k [.ref (ad k 0), .int x] M (pI (fun r M' => ((elRun cs).2.2 = true ∧ r = oI (rowF (elRun cs) x)) ∧ SolAt k M' cs ds mem sl tx ∧ Fr 0 93 M M')) (fun E M' => (E = xISE ∧ (elRun cs).2.2 = false) ∧ SolAt k M' cs ds mem sl tx ∧ Fr 0 93 M M') := by
  refine CX.of (by decide) (Nat.le_of_ble_eq_true rfl) (fun C X hCl hCR rx => ?_)
  have rq := rx.q
  have hst : (C_l C).stackTraces = false := by rw [hCl]; exact hst0
  show V C k 2 (0, 0) M 0 [(0, .ref (ad k 0)), (1, .int x)] []
  obtain ⟨hN, F0, hTx, hS, hT, hMe, hMo, hEl, ⟨cs2, ds2, hS2⟩, ⟨tr2, cf2, hT2⟩, hV⟩ := id hSol
  have ho2 : csOK cs := hV.1.1
  have hds : ∀ d ∈ ds, d < 16 := hV.1.2.1
  have hlc : cs.length ≤ 24 := ho2.1
  have hld : ds.length ≤ 8 := hV.1.2.2
  have hok := cAt_ok ho2
  have hTL := hV.2.1
  refine v_aload_n X 0 dX7_eliminatedRow_0 rfl ?_
  refine v_get X cls7 F0 (by omega) 5 (by decide) m_263 rfl rfl dX7_eliminatedRow_1 ?_
  refine v_aload_n X 0 dX7_eliminatedRow_4 rfl ?_
  refine v_get X cls7 F0 (by omega) 1 (by decide) m_251 rfl rfl dX7_eliminatedRow_5 ?_
  obtain ⟨hN_1, hF_2, hl_3, g_4, F0_5, F3_6, hg_7⟩ := id hS
  refine v_getN X cls5 F0_5 (by omega) 0 (by decide) nw_11 rfl rfl dX7_eliminatedRow_8 ?_
  refine v_callV X hCl hCR (c_X0_run l k M 6 cs hEl hF_2 ho2 (by omega)) cls0 hEl.obj (by omega) mo_X0_run m_42 m_414 m_415 m_416 m_38 (by decide) rfl rfl (Nat.le_of_ble_eq_true rfl) ⟨rfl, rfl⟩ ⟨by decide, by decide⟩ dX7_eliminatedRow_11 (vV_in (fun M_8 hp_9 => ?_))
  obtain ⟨P_11, hfr_10⟩ := hp_9
  have F_12 : M_8 0 = .inr (7, [.ref (ad k 1), .ref (ad k 5), .ref (ad k 9), .ref (ad k 13), .ref (ad k 17), .ref (ad k 19), .ref (ad k 21), .ref (ad k 25)]) := by rw [hfr_10 0 (by omega)]; exact F0
  have F_13 : M_8 5 = .inr (5, [.ref (ad k 6), .ref (ad k 8), .int (nI ds.length)]) := by rw [hfr_10 5 (by omega)]; exact F0_5
  have F_14 : M_8 8 = .inl (kI k, 8, .inl (fun zq => nI (g_4 zq))) := by rw [hfr_10 8 (by omega)]; exact F3_6
  have P_15 : TxAt k M_8 tx := hTx.fr (fun i h1 h2 => hfr_10 i (by omega))
  have P_16 : StAt k M_8 5 cs ds := hS.fr (fun i h1 h2 => hfr_10 i (by omega))
  have P_17 : TrAt k M_8 9 (build cs ds).1 (build cs ds).2 := hT.fr (fun i h1 h2 => hfr_10 i (by omega))
  have P_18 : MeAt k M_8 mem sl := hMe.fr (fun i h1 h2 => hfr_10 i (by omega))
  have P_19 : MoAt k M_8 cs := hMo.fr (fun i h1 h2 => hfr_10 i (by omega))
  have P_20 : StAt k M_8 21 cs2 ds2 := hS2.fr (fun i h1 h2 => hfr_10 i (by omega))
  have P_21 : TrAt k M_8 25 tr2 cf2 := hT2.fr (fun i h1 h2 => hfr_10 i (by omega))
  have P_22 : FmAt k M_8 6 cs := hF_2.fr (fun i h1 h2 => hfr_10 i (by omega))
  refine v_aload_n X 0 dX7_eliminatedRow_14 rfl ?_
  refine v_get X cls7 F_12 (by omega) 5 (by decide) m_263 rfl rfl dX7_eliminatedRow_15 ?_
  obtain ⟨hN_23, r_24, F_25, F_26, hr_27⟩ := id P_11
  refine v_getN X cls0 F_25 (by omega) 2 (by decide) nw_23 rfl rfl dX7_eliminatedRow_18 ?_
  refine v_ineB X 34 dX7_eliminatedRow_21 (by decide) (fun c_28 => ?_) (fun c_28 => ?_)
  · have hb := c_28
    refine v_aload_n X 0 dX7_eliminatedRow_34 rfl ?_
    refine v_get X cls7 F_12 (by omega) 5 (by decide) m_263 rfl rfl dX7_eliminatedRow_35 ?_
    refine v_iload_n X 1 dX7_eliminatedRow_38 rfl ?_
    refine v_callV X hCl hCR (c_X0_rowAt l k M_8 (elRun cs) x P_11 (elF_B hok cs.length).1) cls0 ⟨_, F_25⟩ (by omega) mo_X0_rowAt m_43 m_419 m_420 m_421 m_38 (by decide) rfl rfl (Nat.le_of_ble_eq_true rfl) ⟨rfl, rfl⟩ ⟨by decide, by decide⟩ dX7_eliminatedRow_39 (vP_in ?_)
    exact v_iret X rq ⟨by decide, by decide⟩ rfl dX7_eliminatedRow_42 ⟨_, rfl, ⟨hb, rfl⟩, ⟨hN, F_12, P_15, P_16, P_17, P_18, P_19, P_11.at, ⟨_, _, P_20⟩, ⟨_, _, P_21⟩, hV⟩, (fun i hi => by rw [hfr_10 i (by omega)])⟩
  · have hb := c_28
    exact v_throwS X rx hCR hst rfl (Or.inr (Or.inl rfl)) m_276 m_277 (List.mem_of_getElem? (i := 20) rfl) inE1 bad72 ot72 dX7_eliminatedRow_24 dX7_eliminatedRow_27 dX7_eliminatedRow_28 dX7_eliminatedRow_30 dX7_eliminatedRow_33 (by decide) (Nat.le_of_ble_eq_true rfl) (by decide) (by decide) ⟨⟨rfl, hb⟩, ⟨hN, F_12, P_15, P_16, P_17, P_18, P_19, P_11.at, ⟨_, _, P_20⟩, ⟨_, _, P_21⟩, hV⟩, (fun i hi => by rw [hfr_10 i (by omega)])⟩
