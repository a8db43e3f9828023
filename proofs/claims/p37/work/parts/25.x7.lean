set_option maxHeartbeats 4000000 in
set_option maxRecDepth 100000 in
theorem c_X7_requireVariable (l : Launch) (hst0 : l.stackTraces = false) (k : KX) (M : Mem) (x : Int32) : CX l yX7_requireVariable cX7_requireVariable 1 none { frames := 6, cells := 1, slots := 6, locals := 90 } k [.int x] M (pV (fun M' => M = M' ∧ inL x 8 = true)) (fun E M' => E = xIOB ∧ inL x 8 = false ∧ M = M') := by
  refine CX.of (by decide) (Nat.le_of_ble_eq_true rfl) (fun C X hCl hCR rx => ?_)
  have rq := rx.q
  have hst : (C_l C).stackTraces = false := by rw [hCl]; exact hst0
  show V C k 1 (0, 0) M 0 [(0, .int x)] []
  refine v_iload_n X 0 dX7_requireVariable_0 rfl ?_
  refine v_callS X hCl hCR (c_X7_isVariable l k M x) mo_X7_isVariable m_25 m_350 m_29 m_21 (by decide) rfl rfl (Nat.le_of_ble_eq_true rfl) ⟨rfl, rfl⟩ ⟨by decide, by decide⟩ dX7_requireVariable_1 (vP_in ?_)
  refine v_ineB X 18 dX7_requireVariable_4 (by decide) (fun c_1 => ?_) (fun c_1 => ?_)
  · have hb := c_1
    exact v_vret X rq ⟨by decide, by decide⟩ dX7_requireVariable_18 ⟨rfl, rfl, hb⟩
  · have hb := c_1
    exact v_throwSW X rx hCR hst rfl (Or.inr (Or.inr rfl)) m_304 m_305 (List.mem_of_getElem? (i := 8) rfl) inE2 bad168 ot168 dX7_requireVariable_7 dX7_requireVariable_10 dX7_requireVariable_11 dX7_requireVariable_14 dX7_requireVariable_17 (by decide) (Nat.le_of_ble_eq_true rfl) (by decide) (by decide) ⟨rfl, hb, rfl⟩
set_option maxHeartbeats 4000000 in
set_option maxRecDepth 100000 in
theorem c_X7_requireSlot (l : Launch) (hst0 : l.stackTraces = false) (k : KX) (M : Mem) (x : Int32) : CX l yX7_requireSlot cX7_requireSlot 1 none { frames := 6, cells := 1, slots := 6, locals := 90 } k [.int x] M (pV (fun M' => M = M' ∧ inL x 2 = true)) (fun E M' => E = xIOB ∧ inL x 2 = false ∧ M = M') := by
  refine CX.of (by decide) (Nat.le_of_ble_eq_true rfl) (fun C X hCl hCR rx => ?_)
  have rq := rx.q
  have hst : (C_l C).stackTraces = false := by rw [hCl]; exact hst0
  show V C k 1 (0, 0) M 0 [(0, .int x)] []
  refine v_iload_n X 0 dX7_requireSlot_0 rfl ?_
  refine v_if_lt X 9 dX7_requireSlot_1 (by decide) (fun c_1 => ?_) (fun c_1 => ?_)
  · exact v_throwSW X rx hCR hst rfl (Or.inr (Or.inr rfl)) m_304 m_305 (List.mem_of_getElem? (i := 21) rfl) inE2 bad168 ot168 dX7_requireSlot_9 dX7_requireSlot_12 dX7_requireSlot_13 dX7_requireSlot_16 dX7_requireSlot_19 (by decide) (Nat.le_of_ble_eq_true rfl) (by decide) (by decide) ⟨rfl, by simp_all [inL, nI_0'], rfl⟩
  · refine v_iload_n X 0 dX7_requireSlot_4 rfl ?_
    refine v_iconst X (v := nI 2) (by decide) dX7_requireSlot_5 ?_
    refine v_icmp_lt X 20 dX7_requireSlot_6 (by decide) (fun c_2 => ?_) (fun c_2 => ?_)
    · exact v_vret X rq ⟨by decide, by decide⟩ dX7_requireSlot_20 ⟨rfl, rfl, by simp_all [inL, nI_0']⟩
    · exact v_throwSW X rx hCR hst rfl (Or.inr (Or.inr rfl)) m_304 m_305 (List.mem_of_getElem? (i := 21) rfl) inE2 bad168 ot168 dX7_requireSlot_9 dX7_requireSlot_12 dX7_requireSlot_13 dX7_requireSlot_16 dX7_requireSlot_19 (by decide) (Nat.le_of_ble_eq_true rfl) (by decide) (by decide) ⟨rfl, by simp_all [inL, nI_0'], rfl⟩
set_option maxHeartbeats 4000000 in
set_option maxRecDepth 100000 in
theorem c_X7_requireClause (l : Launch) (hst0 : l.stackTraces = false) (k : KX) (M : Mem) (p n : Int32) : CX l yX7_requireClause cX7_requireClause 2 none { frames := 6, cells := 1, slots := 6, locals := 90 } k [.int p, .int n] M (pV (fun M' => M = M' ∧ inR p 255 = true ∧ inR n 255 = true ∧ p &&& n = 0)) (fun E M' => E = xIAE ∧ ¬ (inR p 255 = true ∧ inR n 255 = true ∧ p &&& n = 0) ∧ M = M') := by
  refine CX.of (by decide) (Nat.le_of_ble_eq_true rfl) (fun C X hCl hCR rx => ?_)
  have rq := rx.q
  have hst : (C_l C).stackTraces = false := by rw [hCl]; exact hst0
  show V C k 2 (0, 0) M 0 [(0, .int p), (1, .int n)] []
  refine v_iload_n X 0 dX7_requireClause_0 rfl ?_
  refine v_callS X hCl hCR (c_X7_isSet l k M p) mo_X7_isSet m_319 m_321 m_322 m_21 (by decide) rfl rfl (Nat.le_of_ble_eq_true rfl) ⟨rfl, rfl⟩ ⟨by decide, by decide⟩ dX7_requireClause_1 (vP_in ?_)
  refine v_ieqB X 14 dX7_requireClause_4 (by decide) (fun c_1 => ?_) (fun c_1 => ?_)
  · exact v_throwSW X rx hCR hst rfl (Or.inl rfl) m_274 m_275 (List.mem_of_getElem? (i := 4) rfl) inE0 bad61 ot61 dX7_requireClause_14 dX7_requireClause_17 dX7_requireClause_18 dX7_requireClause_21 dX7_requireClause_24 (by decide) (Nat.le_of_ble_eq_true rfl) (by decide) (by decide) ⟨rfl, by simp_all, rfl⟩
  · refine v_iload_n X 1 dX7_requireClause_7 rfl ?_
    refine v_callS X hCl hCR (c_X7_isSet l k M n) mo_X7_isSet m_319 m_321 m_322 m_21 (by decide) rfl rfl (Nat.le_of_ble_eq_true rfl) ⟨rfl, rfl⟩ ⟨by decide, by decide⟩ dX7_requireClause_8 (vP_in ?_)
    refine v_ineB X 25 dX7_requireClause_11 (by decide) (fun c_2 => ?_) (fun c_2 => ?_)
    · refine v_iload_n X 0 dX7_requireClause_25 rfl ?_
      refine v_iload_n X 1 dX7_requireClause_26 rfl ?_
      refine v_iand X dX7_requireClause_27 ?_
      refine v_if_eq X 42 dX7_requireClause_28 (by decide) (fun c_3 => ?_) (fun c_3 => ?_)
      · exact v_vret X rq ⟨by decide, by decide⟩ dX7_requireClause_42 ⟨rfl, rfl, by simp_all⟩
      · exact v_throwSW X rx hCR hst rfl (Or.inl rfl) m_274 m_275 (List.mem_of_getElem? (i := 5) rfl) inE0 bad61 ot61 dX7_requireClause_31 dX7_requireClause_34 dX7_requireClause_35 dX7_requireClause_38 dX7_requireClause_41 (by decide) (Nat.le_of_ble_eq_true rfl) (by decide) (by decide) ⟨rfl, by simp_all, rfl⟩
    · exact v_throwSW X rx hCR hst rfl (Or.inl rfl) m_274 m_275 (List.mem_of_getElem? (i := 4) rfl) inE0 bad61 ot61 dX7_requireClause_14 dX7_requireClause_17 dX7_requireClause_18 dX7_requireClause_21 dX7_requireClause_24 (by decide) (Nat.le_of_ble_eq_true rfl) (by decide) (by decide) ⟨rfl, by simp_all, rfl⟩
set_option maxHeartbeats 4000000 in
set_option maxRecDepth 100000 in
theorem c_X7_requireParity (l : Launch) (hst0 : l.stackTraces = false) (k : KX) (M : Mem) (p n : Int32) : CX l yX7_requireParity cX7_requireParity 2 none { frames := 6, cells := 1, slots := 6, locals := 90 } k [.int p, .int n] M (pV (fun M' => M = M' ∧ inR p 255 = true ∧ inR n 1 = true)) (fun E M' => E = xIAE ∧ ¬ (inR p 255 = true ∧ inR n 1 = true) ∧ M = M') := by
  refine CX.of (by decide) (Nat.le_of_ble_eq_true rfl) (fun C X hCl hCR rx => ?_)
  have rq := rx.q
  have hst : (C_l C).stackTraces = false := by rw [hCl]; exact hst0
  show V C k 2 (0, 0) M 0 [(0, .int p), (1, .int n)] []
  refine v_iload_n X 0 dX7_requireParity_0 rfl ?_
  refine v_callS X hCl hCR (c_X7_isSet l k M p) mo_X7_isSet m_319 m_321 m_322 m_21 (by decide) rfl rfl (Nat.le_of_ble_eq_true rfl) ⟨rfl, rfl⟩ ⟨by decide, by decide⟩ dX7_requireParity_1 (vP_in ?_)
  refine v_ineB X 18 dX7_requireParity_4 (by decide) (fun c_1 => ?_) (fun c_1 => ?_)
  · refine v_iload_n X 1 dX7_requireParity_18 rfl ?_
    refine v_if_lt X 27 dX7_requireParity_19 (by decide) (fun c_2 => ?_) (fun c_2 => ?_)
    · exact v_throwSW X rx hCR hst rfl (Or.inl rfl) m_274 m_275 (List.mem_of_getElem? (i := 7) rfl) inE0 bad61 ot61 dX7_requireParity_27 dX7_requireParity_30 dX7_requireParity_31 dX7_requireParity_34 dX7_requireParity_37 (by decide) (Nat.le_of_ble_eq_true rfl) (by decide) (by decide) ⟨rfl, by (first | (simp_all; done) | (intro w; simp only [inR, Bool.and_eq_true, decide_eq_true_eq] at w; have w2 := w.2; simp_all [nI_0', Int32.not_lt])), rfl⟩
    · refine v_iload_n X 1 dX7_requireParity_22 rfl ?_
      refine v_iconst X (v := nI 1) (by decide) dX7_requireParity_23 ?_
      refine v_icmp_le X 38 dX7_requireParity_24 (by decide) (fun c_3 => ?_) (fun c_3 => ?_)
      · exact v_vret X rq ⟨by decide, by decide⟩ dX7_requireParity_38 ⟨rfl, rfl, by assumption, by simp only [inR, Bool.and_eq_true, decide_eq_true_eq]; simp_all [nI_0', Int32.not_lt]⟩
      · exact v_throwSW X rx hCR hst rfl (Or.inl rfl) m_274 m_275 (List.mem_of_getElem? (i := 7) rfl) inE0 bad61 ot61 dX7_requireParity_27 dX7_requireParity_30 dX7_requireParity_31 dX7_requireParity_34 dX7_requireParity_37 (by decide) (Nat.le_of_ble_eq_true rfl) (by decide) (by decide) ⟨rfl, by (first | (simp_all; done) | (intro w; simp only [inR, Bool.and_eq_true, decide_eq_true_eq] at w; have w2 := w.2; simp_all [nI_0', Int32.not_lt])), rfl⟩
  · exact v_throwSW X rx hCR hst rfl (Or.inl rfl) m_274 m_275 (List.mem_of_getElem? (i := 4) rfl) inE0 bad61 ot61 dX7_requireParity_7 dX7_requireParity_10 dX7_requireParity_11 dX7_requireParity_14 dX7_requireParity_17 (by decide) (Nat.le_of_ble_eq_true rfl) (by decide) (by decide) ⟨rfl, by (first | (simp_all; done) | (intro w; simp only [inR, Bool.and_eq_true, decide_eq_true_eq] at w; have w2 := w.2; simp_all [nI_0', Int32.not_lt])), rfl⟩
set_option maxHeartbeats 4000000 in
set_option maxRecDepth 100000 in
theorem c_X7_requireConstraint (l : Launch) (hst0 : l.stackTraces = false) (k : KX) (M : Mem) (cs ds : List Nat) (x : Int32) (hN : 93 ≤ kN k) (F0 : M 0 = .inr (7, [.ref (ad k 1), .ref (ad k 5), .ref (ad k 9), .ref (ad k 13), .ref (ad k 17), .ref (ad k 19), .ref (ad k 21), .ref (ad k 25)])) (hS : StAt k M 5 cs ds) : CX l yX7_requireConstraint cX7_requireConstraint 2 none { frames := 6, cells := 1, slots := 6, locals := 90 } k [.ref (ad k 0), .int x] M (pV (fun M' => M = M' ∧ inL x cs.length = true)) (fun E M' => E = xIOB ∧ inL x cs.length = false ∧ M = M') := by
  refine CX.of (by decide) (Nat.le_of_ble_eq_true rfl) (fun C X hCl hCR rx => ?_)
  have rq := rx.q
  have hst : (C_l C).stackTraces = false := by rw [hCl]; exact hst0
  show V C k 2 (0, 0) M 0 [(0, .ref (ad k 0)), (1, .int x)] []
  refine v_aload_n X 0 dX7_requireConstraint_0 rfl ?_
  refine v_get X cls7 F0 (by omega) 1 (by decide) m_251 rfl rfl dX7_requireConstraint_1 ?_
  obtain ⟨hN_1, hF_2, hl_3, g_4, F0_5, F3_6, hg_7⟩ := id hS
  refine v_getN X cls5 F0_5 (by omega) 0 (by decide) nw_11 rfl rfl dX7_requireConstraint_4 ?_
  refine v_iload_n X 1 dX7_requireConstraint_7 rfl ?_
  refine v_callV X hCl hCR (c_X1_has l k M 6 cs x hF_2) cls1 hF_2.obj (by omega) mo_X1_has m_8 m_306 m_13 m_14 m_15 (by decide) rfl rfl (Nat.le_of_ble_eq_true rfl) ⟨rfl, rfl⟩ ⟨by decide, by decide⟩ dX7_requireConstraint_8 (vP_in ?_)
  refine v_ineB X 25 dX7_requireConstraint_11 (by decide) (fun c_8 => ?_) (fun c_8 => ?_)
  · have hb := c_8
    exact v_vret X rq ⟨by decide, by decide⟩ dX7_requireConstraint_25 ⟨rfl, rfl, hb⟩
  · have hb := c_8
    exact v_throwSW X rx hCR hst rfl (Or.inr (Or.inr rfl)) m_304 m_305 (List.mem_of_getElem? (i := 3) rfl) inE2 bad168 ot168 dX7_requireConstraint_14 dX7_requireConstraint_17 dX7_requireConstraint_18 dX7_requireConstraint_21 dX7_requireConstraint_24 (by decide) (Nat.le_of_ble_eq_true rfl) (by decide) (by decide) ⟨rfl, hb, rfl⟩
set_option maxHeartbeats 4000000 in
set_option maxRecDepth 100000 in
theorem c_X7_requireRoom (l : Launch) (hst0 : l.stackTraces = false) (k : KX) (M : Mem) (cs ds : List Nat) (hN : 93 ≤ kN k) (F0 : M 0 = .inr (7, [.ref (ad k 1), .ref (ad k 5), .ref (ad k 9), .ref (ad k 13), .ref (ad k 17), .ref (ad k 19), .ref (ad k 21), .ref (ad k 25)])) (hS : StAt k M 5 cs ds) : CX l yX7_requireRoom cX7_requireRoom 1 none { frames := 6, cells := 1, slots := 6, locals := 90 } k [.ref (ad k 0)] M (pV (fun M' => M = M' ∧ cs.length < 24)) (fun E M' => E = xISE ∧ 24 ≤ cs.length ∧ M = M') := by
  refine CX.of (by decide) (Nat.le_of_ble_eq_true rfl) (fun C X hCl hCR rx => ?_)
  have rq := rx.q
  have hst : (C_l C).stackTraces = false := by rw [hCl]; exact hst0
  show V C k 1 (0, 0) M 0 [(0, .ref (ad k 0))] []
  refine v_aload_n X 0 dX7_requireRoom_0 rfl ?_
  refine v_get X cls7 F0 (by omega) 1 (by decide) m_251 rfl rfl dX7_requireRoom_1 ?_
  obtain ⟨hN_1, hF_2, hl_3, g_4, F0_5, F3_6, hg_7⟩ := id hS
  refine v_getN X cls5 F0_5 (by omega) 0 (by decide) nw_11 rfl rfl dX7_requireRoom_4 ?_
  refine v_callV X hCl hCR (c_X1_isFull l k M 6 cs hF_2) cls1 hF_2.obj (by omega) mo_X1_isFull m_46 m_324 m_49 m_50 m_15 (by decide) rfl rfl (Nat.le_of_ble_eq_true rfl) ⟨rfl, rfl⟩ ⟨by decide, by decide⟩ dX7_requireRoom_7 (vP_in ?_)
  refine v_ieqB X 24 dX7_requireRoom_10 (by decide) (fun c_8 => ?_) (fun c_8 => ?_)
  · have hb := c_8
    exact v_vret X rq ⟨by decide, by decide⟩ dX7_requireRoom_24 ⟨rfl, rfl, by simpa using hb⟩
  · have hb := c_8
    exact v_throwSW X rx hCR hst rfl (Or.inr (Or.inl rfl)) m_276 m_277 (List.mem_of_getElem? (i := 6) rfl) inE1 bad72 ot72 dX7_requireRoom_13 dX7_requireRoom_16 dX7_requireRoom_17 dX7_requireRoom_20 dX7_requireRoom_23 (by decide) (Nat.le_of_ble_eq_true rfl) (by decide) (by decide) ⟨rfl, by simpa using hb, rfl⟩
set_option maxHeartbeats 4000000 in
set_option maxRecDepth 100000 in
theorem c_X7_requireAnalysis (l : Launch) (hst0 : l.stackTraces = false) (k : KX) (M : Mem) (cs ds : List Nat) (tr : List Ent) (cf : Option Nat) (hN : 93 ≤ kN k) (F0 : M 0 = .inr (7, [.ref (ad k 1), .ref (ad k 5), .ref (ad k 9), .ref (ad k 13), .ref (ad k 17), .ref (ad k 19), .ref (ad k 21), .ref (ad k 25)])) (hS : StAt k M 5 cs ds) (hT : TrAt k M 9 tr cf) : CX l yX7_requireAnalysis cX7_requireAnalysis 1 none { frames := 6, cells := 1, slots := 6, locals := 90 } k [.ref (ad k 0)] M (pV (fun M' => M = M' ∧ cf ≠ none ∧ ds.length ≠ 0)) (fun E M' => E = xISE ∧ (cf = none ∨ ds.length = 0) ∧ M = M') := by
  refine CX.of (by decide) (Nat.le_of_ble_eq_true rfl) (fun C X hCl hCR rx => ?_)
  have rq := rx.q
  have hst : (C_l C).stackTraces = false := by rw [hCl]; exact hst0
  show V C k 1 (0, 0) M 0 [(0, .ref (ad k 0))] []
  refine v_aload_n X 0 dX7_requireAnalysis_0 rfl ?_
  refine v_get X cls7 F0 (by omega) 2 (by decide) m_254 rfl rfl dX7_requireAnalysis_1 ?_
  obtain ⟨hN_1, hk_2, hc_3, o_4, lv_5, rs_6, F0_7, F1_8, F2_9, F3_10, ho_11, hv_12⟩ := id hT
  have hk_2_A := hk_2.A
  have hk_2_T := hk_2.T
  have hk_2_B := hk_2.B
  have hk_2_l := hk_2.le
  have hk_2_L := tL_le tr
  refine v_getN X cls6 F0_7 (by omega) 8 (by decide) nw_16 rfl rfl dX7_requireAnalysis_4 ?_
  refine v_bipush X (v := (-9)) (by decide) dX7_requireAnalysis_7 ?_
  refine v_icmp_eq X 22 dX7_requireAnalysis_9 (by decide) (fun c_13 => ?_) (fun c_13 => ?_)
  · have hb : cf = none := by exact (oI_eq (fun n hn => by have := hc_3 n hn; omega)).mp c_13
    exact v_throwSW X rx hCR hst rfl (Or.inr (Or.inl rfl)) m_276 m_277 (List.mem_of_getElem? (i := 17) rfl) inE1 bad72 ot72 dX7_requireAnalysis_22 dX7_requireAnalysis_25 dX7_requireAnalysis_26 dX7_requireAnalysis_29 dX7_requireAnalysis_32 (by decide) (Nat.le_of_ble_eq_true rfl) (by decide) (by decide) ⟨rfl, by simp_all, rfl⟩
  · have hb : ¬ cf = none := by intro w; exact c_13 (by rw [w]; rfl)
    refine v_aload_n X 0 dX7_requireAnalysis_12 rfl ?_
    refine v_get X cls7 F0 (by omega) 1 (by decide) m_251 rfl rfl dX7_requireAnalysis_13 ?_
    obtain ⟨hN_14, hF_15, hl_16, g_17, F0_18, F3_19, hg_20⟩ := id hS
    refine v_getN X cls5 F0_18 (by omega) 2 (by decide) nw_13 rfl rfl dX7_requireAnalysis_16 ?_
    refine v_ineN X 33 (by omega) dX7_requireAnalysis_19 (by decide) (fun c_21 => ?_) (fun c_21 => ?_)
    · have hc := c_21
      exact v_vret X rq ⟨by decide, by decide⟩ dX7_requireAnalysis_33 ⟨rfl, rfl, hb, hc⟩
    · have hc := c_21
      exact v_throwSW X rx hCR hst rfl (Or.inr (Or.inl rfl)) m_276 m_277 (List.mem_of_getElem? (i := 17) rfl) inE1 bad72 ot72 dX7_requireAnalysis_22 dX7_requireAnalysis_25 dX7_requireAnalysis_26 dX7_requireAnalysis_29 dX7_requireAnalysis_32 (by decide) (Nat.le_of_ble_eq_true rfl) (by decide) (by decide) ⟨rfl, by simp_all, rfl⟩
set_option maxHeartbeats 4000000 in
set_option maxRecDepth 100000 in
theorem c_X7_rebuild (l : Launch) (k : KX) (M : Mem) (cs ds cs0 : List Nat) (tr : List Ent) (cf : Option Nat) (hN : 93 ≤ kN k) (F0 : M 0 = .inr (7, [.ref (ad k 1), .ref (ad k 5), .ref (ad k 9), .ref (ad k 13), .ref (ad k 17), .ref (ad k 19), .ref (ad k 21), .ref (ad k 25)])) (hS : StAt k M 5 cs ds) (hT : TrAt k M 9 tr cf) (hM : MoAt k M cs0) (ho2 : csOK cs) (hds : ∀ d ∈ ds, d < 16) : CM l yX7_rebuild cX7_rebuild 1 none { frames := 5, cells := 0, slots := 0, locals := 115 } k [.ref (ad k 0)] M (pV (fun M' => StAt k M' 5 cs (sNew cs ds) ∧ TrAt k M' 9 (build cs ds).1 (build cs ds).2 ∧ MoAt k M' cs ∧ ∀ i, (i < 5 ∨ 13 ≤ i) → i ≠ 17 → M' i = M i)) := by
  refine CM.of (by decide) (Nat.le_of_ble_eq_true rfl) (fun C X hCl hCR rq => ?_)
  show V C k 1 (0, 0) M 0 [(0, .ref (ad k 0))] []
  refine v_aload_n X 0 dX7_rebuild_0 rfl ?_
  refine v_get X cls7 F0 (by omega) 4 (by decide) m_260 rfl rfl dX7_rebuild_1 ?_
  obtain ⟨hN9, st9, f9, F17, F18, h9⟩ := id hM
  refine v_iconst X (v := bI true) (by decide) dX7_rebuild_4 ?_
  refine v_putN X cls4 F17 (by omega) 1 (by decide) nw_20 rfl rfl (narZ _) (fitZ _) (Nat.le_of_ble_eq_true rfl) dX7_rebuild_5 (fun M_1 hM_2 => ?_)
  have F_3 : M_1 0 = .inr (7, [.ref (ad k 1), .ref (ad k 5), .ref (ad k 9), .ref (ad k 13), .ref (ad k 17), .ref (ad k 19), .ref (ad k 21), .ref (ad k 25)]) := by rw [hM_2, mup_n (by omega)]; exact F0
  have F_4 : M_1 17 = .inr (4, [.ref (ad k 18), .int (bI true)]) := by rw [hM_2]; exact mup_s
  have F_5 : M_1 18 = .inl (kI k, 256, .inl (fun zq => nI (f9 zq))) := by rw [hM_2, mup_n (by omega)]; exact F18
  have P_6 : StAt k M_1 5 cs ds := hS.fr (fun i h1 h2 => by rw [hM_2, mup_n (by omega)])
  have P_7 : TrAt k M_1 9 tr cf := hT.fr (fun i h1 h2 => by rw [hM_2, mup_n (by omega)])
  have P_8 : MoAt k M_1 cs := MoAt.stale hN9 F_4 F_5
  refine v_aload_n X 0 dX7_rebuild_8 rfl ?_
  refine v_get X cls7 F_3 (by omega) 2 (by decide) m_254 rfl rfl dX7_rebuild_9 ?_
  refine v_aload_n X 0 dX7_rebuild_12 rfl ?_
  refine v_get X cls7 F_3 (by omega) 1 (by decide) m_251 rfl rfl dX7_rebuild_13 ?_
  refine v_callV X hCl hCR (c_X6_build l k M_1 9 5 tr cf cs ds P_7 P_6 ho2 hds (by omega)) cls6 P_7.obj (by omega) mo_X6_build m_231 m_286 m_287 m_288 m_204 (by decide) rfl rfl (Nat.le_of_ble_eq_true rfl) ⟨rfl, rfl⟩ ⟨by decide, by decide⟩ dX7_rebuild_16 (vV_in (fun M_9 hp_10 => ?_))
  obtain ⟨P_12, P_13, hfr_11⟩ := hp_10
  have F_14 : M_9 0 = .inr (7, [.ref (ad k 1), .ref (ad k 5), .ref (ad k 9), .ref (ad k 13), .ref (ad k 17), .ref (ad k 19), .ref (ad k 21), .ref (ad k 25)]) := by rw [hfr_11 0 (by omega) (by omega)]; exact F_3
  have P_15 : MoAt k M_9 cs := P_8.fr (fun i h1 h2 => hfr_11 i (by omega) (by omega))
  exact v_vret X rq ⟨by decide, by decide⟩ dX7_rebuild_19 ⟨rfl, P_13, P_12, P_15, (fun i hi hi2 => by rw [hfr_11 i (by omega) (by omega), hM_2, mup_n (by omega)])⟩
