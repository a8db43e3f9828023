set_option maxHeartbeats 4000000 in
set_option maxRecDepth 100000 in
theorem c_X7_append (l : Launch) (hst0 : l.stackTraces = false) (k : KX) (M : Mem) (cs ds : List Nat) (mem : List SD) (sl : Nat → Option SD) (tx : List Nat) (c : Int32) (hSol : SolAt k M cs ds mem sl tx) : CX l yX7_append cX7_append 2 ((some .int)) { frames := 6, cells := 1, slots := 6, locals := 90 } k [.ref (ad k 0), .int c] M (pI (fun r M' => (∃ n, n < 256 ∧ c = nI n ∧ tx.length < 90 ∧ r = nI (tx.length + 1) ∧ SolAt k M' cs ds mem sl (tx ++ [n])) ∧ Fr 0 93 M M')) (fun E M' => ((E = xIAE ∧ inR c 255 = false) ∨ (E = xISE ∧ inR c 255 = true ∧ 90 ≤ tx.length)) ∧ SolAt k M' cs ds mem sl tx ∧ Fr 0 93 M M') := by
  refine CX.of (by decide) (Nat.le_of_ble_eq_true rfl) (fun C X hCl hCR rx => ?_)
  have rq := rx.q
  have hst : (C_l C).stackTraces = false := by rw [hCl]; exact hst0
  show V C k 2 (0, 0) M 0 [(0, .ref (ad k 0)), (1, .int c)] []
  obtain ⟨hN, F0, hTx, hS, hT, hMe, hMo, hEl, ⟨cs2, ds2, hS2⟩, ⟨tr2, cf2, hT2⟩, hV⟩ := id hSol
  have ho2 : csOK cs := hV.1.1
  have hds : ∀ d ∈ ds, d < 16 := hV.1.2.1
  have hlc : cs.length ≤ 24 := ho2.1
  have hld : ds.length ≤ 8 := hV.1.2.2
  have hok := cAt_ok ho2
  have hTL := hV.2.1
  have hx9 := hTx.1
  refine v_iload_n X 1 dX7_append_0 rfl ?_
  refine v_if_lt X 11 dX7_append_1 (by decide) (fun c_1 => ?_) (fun c_1 => ?_)
  · exact v_throwS X rx hCR hst rfl (Or.inl rfl) m_274 m_275 (List.mem_of_getElem? (i := 0) rfl) inE0 bad61 ot61 dX7_append_11 dX7_append_14 dX7_append_15 dX7_append_17 dX7_append_20 (by decide) (Nat.le_of_ble_eq_true rfl) (by decide) (by decide) ⟨Or.inl ⟨rfl, by simp only [inR]; simp_all [nI_0', Int32.not_lt]⟩, hSol, Fr.rf⟩
  · refine v_iload_n X 1 dX7_append_4 rfl ?_
    refine v_sipush X (v := nI 255) (by decide) dX7_append_5 ?_
    refine v_icmp_le X 21 dX7_append_8 (by decide) (fun c_2 => ?_) (fun c_2 => ?_)
    · have hq : inR c 255 = true := by simp_all [inR, nI_0', Int32.not_lt]
      obtain ⟨n, hn, rfl⟩ := inR_of (by decide) hq
      refine v_aload_n X 0 dX7_append_21 rfl ?_
      refine v_get X cls7 F0 (by omega) 0 (by decide) m_249 rfl rfl dX7_append_22 ?_
      obtain ⟨h9_3, hch_4, s_5, f_6, ⟨hN_7, F1_8, hF_9⟩, F2_10, hf_11⟩ := id hTx
      refine v_getN X cls2 F1_8 (by omega) 1 (by decide) nw_6 rfl rfl dX7_append_25 ?_
      refine v_bipush X (v := nI 90) (by decide) dX7_append_28 ?_
      refine v_cltN X 43 (by omega) (by omega) dX7_append_30 (by decide) (fun c_12 => ?_) (fun c_12 => ?_)
      · refine v_aload_n X 0 dX7_append_43 rfl ?_
        refine v_get X cls7 F0 (by omega) 0 (by decide) m_249 rfl rfl dX7_append_44 ?_
        refine v_iload_n X 1 dX7_append_47 rfl ?_
        refine v_callV X hCl hCR (c_X2_put l k M tx n hTx (by omega) (by omega)) cls2 ⟨_, F1_8⟩ (by omega) mo_X2_put m_77 m_278 m_279 m_280 m_83 (by decide) rfl rfl (Nat.le_of_ble_eq_true rfl) ⟨rfl, rfl⟩ ⟨by decide, by decide⟩ dX7_append_48 (vV_in (fun M_13 hp_14 => ?_))
        obtain ⟨P_16, hfr_15⟩ := hp_14
        have F_17 : M_13 0 = .inr (7, [.ref (ad k 1), .ref (ad k 5), .ref (ad k 9), .ref (ad k 13), .ref (ad k 17), .ref (ad k 19), .ref (ad k 21), .ref (ad k 25)]) := by rw [hfr_15 0 (by omega)]; exact F0
        have P_18 : StAt k M_13 5 cs ds := hS.fr (fun i h1 h2 => hfr_15 i (by omega))
        have P_19 : TrAt k M_13 9 (build cs ds).1 (build cs ds).2 := hT.fr (fun i h1 h2 => hfr_15 i (by omega))
        have P_20 : MeAt k M_13 mem sl := hMe.fr (fun i h1 h2 => hfr_15 i (by omega))
        have P_21 : MoAt k M_13 cs := hMo.fr (fun i h1 h2 => hfr_15 i (by omega))
        have P_22 : ElAt k M_13  := hEl.fr (fun i h1 h2 => hfr_15 i (by omega))
        have P_23 : StAt k M_13 21 cs2 ds2 := hS2.fr (fun i h1 h2 => hfr_15 i (by omega))
        have P_24 : TrAt k M_13 25 tr2 cf2 := hT2.fr (fun i h1 h2 => hfr_15 i (by omega))
        refine v_aload_n X 0 dX7_append_51 rfl ?_
        refine v_get X cls7 F_17 (by omega) 0 (by decide) m_249 rfl rfl dX7_append_52 ?_
        obtain ⟨h9_25, hch_26, s_27, f_28, ⟨hN_29, F1_30, hF_31⟩, F2_32, hf_33⟩ := id P_16
        refine v_getN X cls2 F1_30 (by omega) 1 (by decide) nw_6 rfl rfl dX7_append_55 ?_
        exact v_iret X rq ⟨by decide, by decide⟩ rfl dX7_append_58 ⟨_, rfl, ⟨n, by omega, rfl, by omega, by simp, ⟨hN, F_17, P_16, P_18, P_19, P_20, P_21, P_22, ⟨_, _, P_23⟩, ⟨_, _, P_24⟩, hV⟩⟩, (fun i hi => by rw [hfr_15 i (by omega)])⟩
      · exact v_throwS X rx hCR hst rfl (Or.inr (Or.inl rfl)) m_276 m_277 (List.mem_of_getElem? (i := 1) rfl) inE1 bad72 ot72 dX7_append_33 dX7_append_36 dX7_append_37 dX7_append_39 dX7_append_42 (by decide) (Nat.le_of_ble_eq_true rfl) (by decide) (by decide) ⟨Or.inr ⟨rfl, hq, by omega⟩, hSol, Fr.rf⟩
    · exact v_throwS X rx hCR hst rfl (Or.inl rfl) m_274 m_275 (List.mem_of_getElem? (i := 0) rfl) inE0 bad61 ot61 dX7_append_11 dX7_append_14 dX7_append_15 dX7_append_17 dX7_append_20 (by decide) (Nat.le_of_ble_eq_true rfl) (by decide) (by decide) ⟨Or.inl ⟨rfl, by simp only [inR]; simp_all [nI_0', Int32.not_lt]⟩, hSol, Fr.rf⟩
set_option maxHeartbeats 4000000 in
set_option maxRecDepth 100000 in
theorem c_X7_errorPosition (l : Launch) (k : KX) (M : Mem) (cs ds : List Nat) (mem : List SD) (sl : Nat → Option SD) (tx : List Nat) (hSol : SolAt k M cs ds mem sl tx) : CM l yX7_errorPosition cX7_errorPosition 1 ((some .int)) { frames := 6, cells := 0, slots := 0, locals := 129 } k [.ref (ad k 0)] M (pI (fun r M' => (r = oI (rdText tx).1) ∧ SolAt k M' cs ds mem sl tx ∧ Fr 0 93 M M')) := by
  refine CM.of (by decide) (Nat.le_of_ble_eq_true rfl) (fun C X hCl hCR rq => ?_)
  show V C k 1 (0, 0) M 0 [(0, .ref (ad k 0))] []
  obtain ⟨hN, F0, hTx, hS, hT, hMe, hMo, hEl, ⟨cs2, ds2, hS2⟩, ⟨tr2, cf2, hT2⟩, hV⟩ := id hSol
  have ho2 : csOK cs := hV.1.1
  have hds : ∀ d ∈ ds, d < 16 := hV.1.2.1
  have hlc : cs.length ≤ 24 := ho2.1
  have hld : ds.length ≤ 8 := hV.1.2.2
  have hok := cAt_ok ho2
  have hTL := hV.2.1
  refine v_aload_n X 0 dX7_errorPosition_0 rfl ?_
  refine v_get X cls7 F0 (by omega) 0 (by decide) m_249 rfl rfl dX7_errorPosition_1 ?_
  refine v_callV X hCl hCR (c_X2_read l k M tx hTx) cls2 hTx.obj (by omega) mo_X2_read m_118 m_282 m_283 m_284 m_83 (by decide) rfl rfl (Nat.le_of_ble_eq_true rfl) ⟨rfl, rfl⟩ ⟨by decide, by decide⟩ dX7_errorPosition_4 (vI_in (fun r_4 M_1 hp_2 => ?_))
  obtain ⟨he_5, T_6, hfr_3⟩ := hp_2
  subst he_5
  have hTR := T_6
  have hTx2 := T_6.at
  have F_7 : M_1 0 = .inr (7, [.ref (ad k 1), .ref (ad k 5), .ref (ad k 9), .ref (ad k 13), .ref (ad k 17), .ref (ad k 19), .ref (ad k 21), .ref (ad k 25)]) := by rw [hfr_3 0 (by omega) (by omega) (by omega)]; exact F0
  have P_8 : StAt k M_1 5 cs ds := hS.fr (fun i h1 h2 => hfr_3 i (by omega) (by omega) (by omega))
  have P_9 : TrAt k M_1 9 (build cs ds).1 (build cs ds).2 := hT.fr (fun i h1 h2 => hfr_3 i (by omega) (by omega) (by omega))
  have P_10 : MeAt k M_1 mem sl := hMe.fr (fun i h1 h2 => hfr_3 i (by omega) (by omega) (by omega))
  have P_11 : MoAt k M_1 cs := hMo.fr (fun i h1 h2 => hfr_3 i (by omega) (by omega) (by omega))
  have P_12 : ElAt k M_1  := hEl.fr (fun i h1 h2 => hfr_3 i (by omega) (by omega) (by omega))
  have P_13 : StAt k M_1 21 cs2 ds2 := hS2.fr (fun i h1 h2 => hfr_3 i (by omega) (by omega) (by omega))
  have P_14 : TrAt k M_1 25 tr2 cf2 := hT2.fr (fun i h1 h2 => hfr_3 i (by omega) (by omega) (by omega))
  exact v_iret X rq ⟨by decide, by decide⟩ rfl dX7_errorPosition_7 ⟨_, rfl, rfl, ⟨hN, F_7, hTx2, P_8, P_9, P_10, P_11, P_12, ⟨_, _, P_13⟩, ⟨_, _, P_14⟩, hV⟩, (fun i hi => by rw [hfr_3 i (by omega) (by omega) (by omega)])⟩
theorem txRun_le {tx : List Nat} : ∀ (n i : Nat) (s : TS) {j : Nat}, (txRun tx n i s).1 = some j → j ≤ i + n
  | 0, i, s, j, h => by
    unfold txRun at h
    simp only [] at h
    split at h
    · cases h
    · cases h; exact Nat.le_refl _
  | n + 1, i, s, j, h => by
    unfold txRun at h
    split at h
    · have := txRun_le n (i + 1) _ h; omega
    · cases h; omega
theorem rd_le {tx : List Nat} {j : Nat} (h : (rdText tx).1 = some j) : j ≤ tx.length := by
  have := txRun_le tx.length 0 _ h; omega
set_option maxHeartbeats 4000000 in
set_option maxRecDepth 100000 in
theorem c_X7_load (l : Launch) (hst0 : l.stackTraces = false) (k : KX) (M : Mem) (cs ds : List Nat) (mem : List SD) (sl : Nat → Option SD) (tx : List Nat) (hSol : SolAt k M cs ds mem sl tx) : CX l yX7_load cX7_load 1 ((some .int)) { frames := 6, cells := 1, slots := 6, locals := 135 } k [.ref (ad k 0)] M (pI (fun r M' => ((rdText tx).1 = none ∧ r = nI (rdText tx).2.1.length ∧ SolAt k M' ((rdText tx).2.1) ([]) ([]) (fun _ => none) tx) ∧ Fr 0 93 M M')) (fun E M' => (E = xISE ∧ (rdText tx).1 ≠ none) ∧ SolAt k M' cs ds mem sl tx ∧ Fr 0 93 M M') := by
  refine CX.of (by decide) (Nat.le_of_ble_eq_true rfl) (fun C X hCl hCR rx => ?_)
  have rq := rx.q
  have hst : (C_l C).stackTraces = false := by rw [hCl]; exact hst0
  show V C k 1 (0, 0) M 0 [(0, .ref (ad k 0))] []
  obtain ⟨hN, F0, hTx, hS, hT, hMe, hMo, hEl, ⟨cs2, ds2, hS2⟩, ⟨tr2, cf2, hT2⟩, hV⟩ := id hSol
  have ho2 : csOK cs := hV.1.1
  have hds : ∀ d ∈ ds, d < 16 := hV.1.2.1
  have hlc : cs.length ≤ 24 := ho2.1
  have hld : ds.length ≤ 8 := hV.1.2.2
  have hok := cAt_ok ho2
  have hTL := hV.2.1
  refine v_aload_n X 0 dX7_load_0 rfl ?_
  refine v_get X cls7 F0 (by omega) 0 (by decide) m_249 rfl rfl dX7_load_1 ?_
  refine v_callV X hCl hCR (c_X2_read l k M tx hTx) cls2 hTx.obj (by omega) mo_X2_read m_118 m_282 m_283 m_284 m_83 (by decide) rfl rfl (Nat.le_of_ble_eq_true rfl) ⟨rfl, rfl⟩ ⟨by decide, by decide⟩ dX7_load_4 (vI_in (fun r_4 M_1 hp_2 => ?_))
  obtain ⟨he_5, T_6, hfr_3⟩ := hp_2
  subst he_5
  have hTR := T_6
  have hTx2 := T_6.at
  have F_7 : M_1 0 = .inr (7, [.ref (ad k 1), .ref (ad k 5), .ref (ad k 9), .ref (ad k 13), .ref (ad k 17), .ref (ad k 19), .ref (ad k 21), .ref (ad k 25)]) := by rw [hfr_3 0 (by omega) (by omega) (by omega)]; exact F0
  have P_8 : StAt k M_1 5 cs ds := hS.fr (fun i h1 h2 => hfr_3 i (by omega) (by omega) (by omega))
  have P_9 : TrAt k M_1 9 (build cs ds).1 (build cs ds).2 := hT.fr (fun i h1 h2 => hfr_3 i (by omega) (by omega) (by omega))
  have P_10 : MeAt k M_1 mem sl := hMe.fr (fun i h1 h2 => hfr_3 i (by omega) (by omega) (by omega))
  have P_11 : MoAt k M_1 cs := hMo.fr (fun i h1 h2 => hfr_3 i (by omega) (by omega) (by omega))
  have P_12 : ElAt k M_1  := hEl.fr (fun i h1 h2 => hfr_3 i (by omega) (by omega) (by omega))
  have P_13 : StAt k M_1 21 cs2 ds2 := hS2.fr (fun i h1 h2 => hfr_3 i (by omega) (by omega) (by omega))
  have P_14 : TrAt k M_1 25 tr2 cf2 := hT2.fr (fun i h1 h2 => hfr_3 i (by omega) (by omega) (by omega))
  refine v_bipush X (v := (-9)) (by decide) dX7_load_7 ?_
  refine v_icmp_eq X 22 dX7_load_9 (by decide) (fun c_15 => ?_) (fun c_15 => ?_)
  · have hrd : (rdText tx).1 = none := (oI_eq (fun n hn => by have := rd_le hn; have := hTx.1; omega)).mp c_15
    obtain ⟨⟨hN5, G1, hG3⟩, h90, hch, f2, G2, hf2⟩ := id hTR
    have hco := rdText_ok hch
    refine v_aload_n X 0 dX7_load_22 rfl ?_
    refine v_get X cls7 F_7 (by omega) 1 (by decide) m_251 rfl rfl dX7_load_23 ?_
    obtain ⟨hN_16, hF_17, hl_18, g_19, F0_20, F3_21, hg_22⟩ := id P_8
    refine v_getN X cls5 F0_20 (by omega) 0 (by decide) nw_11 rfl rfl dX7_load_26 ?_
    refine v_aload_n X 0 dX7_load_29 rfl ?_
    refine v_get X cls7 F_7 (by omega) 0 (by decide) m_249 rfl rfl dX7_load_30 ?_
    refine v_getN X cls2 G1 (by omega) 2 (by decide) nw_7 rfl rfl dX7_load_33 ?_
    refine v_callV X hCl hCR (c_X1_copyFrom l k M_1 6 3 cs ((rdText tx).2.1) hF_17 hG3 (by omega)) cls1 hF_17.obj (by omega) mo_X1_copyFrom m_52 m_290 m_139 m_140 m_15 (by decide) rfl rfl (Nat.le_of_ble_eq_true rfl) ⟨rfl, rfl⟩ ⟨by decide, by decide⟩ dX7_load_36 (vV_in (fun M_23 hp_24 => ?_))
    obtain ⟨P_26, hfr_25⟩ := hp_24
    have F_27 : M_23 0 = .inr (7, [.ref (ad k 1), .ref (ad k 5), .ref (ad k 9), .ref (ad k 13), .ref (ad k 17), .ref (ad k 19), .ref (ad k 21), .ref (ad k 25)]) := by rw [hfr_25 0 (by omega)]; exact F_7
    have F_28 : M_23 1 = .inr (2, [.ref (ad k 2), .int (nI tx.length), .ref (ad k 3), .int (nI ((rdText tx).2.2.1)), .int (nI ((rdText tx).2.2.2.1)), .int (nI ((rdText tx).2.2.2.2))]) := by rw [hfr_25 1 (by omega)]; exact G1
    have F_29 : M_23 2 = .inl (kI k, 90, .inl (fun zq => nI (f2 zq))) := by rw [hfr_25 2 (by omega)]; exact G2
    have F_30 : M_23 5 = .inr (5, [.ref (ad k 6), .ref (ad k 8), .int (nI ds.length)]) := by rw [hfr_25 5 (by omega)]; exact F0_20
    have F_31 : M_23 8 = .inl (kI k, 8, .inl (fun zq => nI (g_19 zq))) := by rw [hfr_25 8 (by omega)]; exact F3_21
    have P_32 : TrAt k M_23 9 (build cs ds).1 (build cs ds).2 := P_9.fr (fun i h1 h2 => hfr_25 i (by omega))
    have P_33 : MeAt k M_23 mem sl := P_10.fr (fun i h1 h2 => hfr_25 i (by omega))
    have P_34 : MoAt k M_23 cs := P_11.fr (fun i h1 h2 => hfr_25 i (by omega))
    have P_35 : ElAt k M_23  := P_12.fr (fun i h1 h2 => hfr_25 i (by omega))
    have P_36 : StAt k M_23 21 cs2 ds2 := P_13.fr (fun i h1 h2 => hfr_25 i (by omega))
    have P_37 : TrAt k M_23 25 tr2 cf2 := P_14.fr (fun i h1 h2 => hfr_25 i (by omega))
    have P_38 : TxAt k M_23 tx := hTx2.fr (fun i h1 h2 => hfr_25 i (by omega))
    have P_39 : FmAt k M_23 3 (rdText tx).2.1 := hG3.fr (fun i h1 h2 => hfr_25 i (by omega))
    refine v_aload_n X 0 dX7_load_39 rfl ?_
    refine v_get X cls7 F_27 (by omega) 1 (by decide) m_251 rfl rfl dX7_load_40 ?_
    refine v_iconst X (v := nI 0) (by decide) dX7_load_43 ?_
    have P_44 : StAt k M_23 5 (rdText tx).2.1 ds := ⟨hN_16, P_26, hl_18, _, F_30, F_31, hg_22⟩
    refine v_callV X hCl hCR (c_X5_keepDecisions l k M_23 5 (rdText tx).2.1 ds 0 P_44 (by omega)) cls5 ⟨_, F_30⟩ (by omega) mo_X5_keepDecisions m_177 m_291 m_229 m_230 m_133 (by decide) rfl rfl (Nat.le_of_ble_eq_true rfl) ⟨rfl, rfl⟩ ⟨by decide, by decide⟩ dX7_load_44 (vV_in (fun M_40 hp_41 => ?_))
    obtain ⟨P_43, hfr_42⟩ := hp_41
    have F_45 : M_40 0 = .inr (7, [.ref (ad k 1), .ref (ad k 5), .ref (ad k 9), .ref (ad k 13), .ref (ad k 17), .ref (ad k 19), .ref (ad k 21), .ref (ad k 25)]) := by rw [hfr_42 0 (by omega)]; exact F_27
    have F_46 : M_40 1 = .inr (2, [.ref (ad k 2), .int (nI tx.length), .ref (ad k 3), .int (nI ((rdText tx).2.2.1)), .int (nI ((rdText tx).2.2.2.1)), .int (nI ((rdText tx).2.2.2.2))]) := by rw [hfr_42 1 (by omega)]; exact F_28
    have F_47 : M_40 2 = .inl (kI k, 90, .inl (fun zq => nI (f2 zq))) := by rw [hfr_42 2 (by omega)]; exact F_29
    have P_48 : TrAt k M_40 9 (build cs ds).1 (build cs ds).2 := P_32.fr (fun i h1 h2 => hfr_42 i (by omega))
    have P_49 : MeAt k M_40 mem sl := P_33.fr (fun i h1 h2 => hfr_42 i (by omega))
    have P_50 : MoAt k M_40 cs := P_34.fr (fun i h1 h2 => hfr_42 i (by omega))
    have P_51 : ElAt k M_40  := P_35.fr (fun i h1 h2 => hfr_42 i (by omega))
    have P_52 : StAt k M_40 21 cs2 ds2 := P_36.fr (fun i h1 h2 => hfr_42 i (by omega))
    have P_53 : TrAt k M_40 25 tr2 cf2 := P_37.fr (fun i h1 h2 => hfr_42 i (by omega))
    have P_54 : TxAt k M_40 tx := P_38.fr (fun i h1 h2 => hfr_42 i (by omega))
    have P_55 : FmAt k M_40 3 (rdText tx).2.1 := P_39.fr (fun i h1 h2 => hfr_42 i (by omega))
    refine v_aload_n X 0 dX7_load_47 rfl ?_
    refine v_get X cls7 F_45 (by omega) 3 (by decide) m_257 rfl rfl dX7_load_48 ?_
    refine v_callV X hCl hCR (c_X3_forgetAll l k M_40 mem sl P_49) cls3 P_49.obj (by omega) mo_X3_forgetAll m_153 m_292 m_293 m_294 m_148 (by decide) rfl rfl (Nat.le_of_ble_eq_true rfl) ⟨rfl, rfl⟩ ⟨by decide, by decide⟩ dX7_load_51 (vV_in (fun M_56 hp_57 => ?_))
    obtain ⟨P_59, hfr_58⟩ := hp_57
    have F_60 : M_56 0 = .inr (7, [.ref (ad k 1), .ref (ad k 5), .ref (ad k 9), .ref (ad k 13), .ref (ad k 17), .ref (ad k 19), .ref (ad k 21), .ref (ad k 25)]) := by rw [hfr_58 0 (by omega)]; exact F_45
    have F_61 : M_56 1 = .inr (2, [.ref (ad k 2), .int (nI tx.length), .ref (ad k 3), .int (nI ((rdText tx).2.2.1)), .int (nI ((rdText tx).2.2.2.1)), .int (nI ((rdText tx).2.2.2.2))]) := by rw [hfr_58 1 (by omega)]; exact F_46
    have F_62 : M_56 2 = .inl (kI k, 90, .inl (fun zq => nI (f2 zq))) := by rw [hfr_58 2 (by omega)]; exact F_47
    have P_63 : TrAt k M_56 9 (build cs ds).1 (build cs ds).2 := P_48.fr (fun i h1 h2 => hfr_58 i (by omega))
    have P_64 : MoAt k M_56 cs := P_50.fr (fun i h1 h2 => hfr_58 i (by omega))
    have P_65 : ElAt k M_56  := P_51.fr (fun i h1 h2 => hfr_58 i (by omega))
    have P_66 : StAt k M_56 21 cs2 ds2 := P_52.fr (fun i h1 h2 => hfr_58 i (by omega))
    have P_67 : TrAt k M_56 25 tr2 cf2 := P_53.fr (fun i h1 h2 => hfr_58 i (by omega))
    have P_68 : TxAt k M_56 tx := P_54.fr (fun i h1 h2 => hfr_58 i (by omega))
    have P_69 : FmAt k M_56 3 (rdText tx).2.1 := P_55.fr (fun i h1 h2 => hfr_58 i (by omega))
    have P_70 : StAt k M_56 5 (rdText tx).2.1 (ds.take 0) := P_43.fr (fun i h1 h2 => hfr_58 i (by omega))
    refine v_aload_n X 0 dX7_load_54 rfl ?_
    refine v_get X cls7 F_60 (by omega) 3 (by decide) m_257 rfl rfl dX7_load_55 ?_
    refine v_callV X hCl hCR (c_X3_emptySlots l k M_56 [] sl P_59) cls3 P_59.obj (by omega) mo_X3_emptySlots m_160 m_295 m_296 m_297 m_148 (by decide) rfl rfl (Nat.le_of_ble_eq_true rfl) ⟨rfl, rfl⟩ ⟨by decide, by decide⟩ dX7_load_58 (vV_in (fun M_71 hp_72 => ?_))
    obtain ⟨P_74, hfr_73⟩ := hp_72
    have F_75 : M_71 0 = .inr (7, [.ref (ad k 1), .ref (ad k 5), .ref (ad k 9), .ref (ad k 13), .ref (ad k 17), .ref (ad k 19), .ref (ad k 21), .ref (ad k 25)]) := by rw [hfr_73 0 (by omega)]; exact F_60
    have F_76 : M_71 1 = .inr (2, [.ref (ad k 2), .int (nI tx.length), .ref (ad k 3), .int (nI ((rdText tx).2.2.1)), .int (nI ((rdText tx).2.2.2.1)), .int (nI ((rdText tx).2.2.2.2))]) := by rw [hfr_73 1 (by omega)]; exact F_61
    have F_77 : M_71 2 = .inl (kI k, 90, .inl (fun zq => nI (f2 zq))) := by rw [hfr_73 2 (by omega)]; exact F_62
    have P_78 : TrAt k M_71 9 (build cs ds).1 (build cs ds).2 := P_63.fr (fun i h1 h2 => hfr_73 i (by omega))
    have P_79 : MoAt k M_71 cs := P_64.fr (fun i h1 h2 => hfr_73 i (by omega))
    have P_80 : ElAt k M_71  := P_65.fr (fun i h1 h2 => hfr_73 i (by omega))
    have P_81 : StAt k M_71 21 cs2 ds2 := P_66.fr (fun i h1 h2 => hfr_73 i (by omega))
    have P_82 : TrAt k M_71 25 tr2 cf2 := P_67.fr (fun i h1 h2 => hfr_73 i (by omega))
    have P_83 : TxAt k M_71 tx := P_68.fr (fun i h1 h2 => hfr_73 i (by omega))
    have P_84 : FmAt k M_71 3 (rdText tx).2.1 := P_69.fr (fun i h1 h2 => hfr_73 i (by omega))
    have P_85 : StAt k M_71 5 (rdText tx).2.1 (ds.take 0) := P_70.fr (fun i h1 h2 => hfr_73 i (by omega))
    refine v_aload_n X 0 dX7_load_61 rfl ?_
    refine v_callV X hCl hCR (c_X7_rebuild l k M_71 (rdText tx).2.1 (ds.take 0) cs (build cs ds).1 (build cs ds).2 hN F_75 P_85 P_78 P_79 hco (by intro d hd; simp at hd)) cls7 ⟨_, F_75⟩ (by omega) mo_X7_rebuild m_289 m_298 m_299 m_300 m_21 (by decide) rfl rfl (Nat.le_of_ble_eq_true rfl) ⟨rfl, rfl⟩ ⟨by decide, by decide⟩ dX7_load_62 (vV_in (fun M_86 hp_87 => ?_))
    obtain ⟨P_89, P_90, P_91, hfr_88⟩ := hp_87
    have F_92 : M_86 0 = .inr (7, [.ref (ad k 1), .ref (ad k 5), .ref (ad k 9), .ref (ad k 13), .ref (ad k 17), .ref (ad k 19), .ref (ad k 21), .ref (ad k 25)]) := by rw [hfr_88 0 (by omega) (by omega)]; exact F_75
    have F_93 : M_86 1 = .inr (2, [.ref (ad k 2), .int (nI tx.length), .ref (ad k 3), .int (nI ((rdText tx).2.2.1)), .int (nI ((rdText tx).2.2.2.1)), .int (nI ((rdText tx).2.2.2.2))]) := by rw [hfr_88 1 (by omega) (by omega)]; exact F_76
    have F_94 : M_86 2 = .inl (kI k, 90, .inl (fun zq => nI (f2 zq))) := by rw [hfr_88 2 (by omega) (by omega)]; exact F_77
    have P_95 : ElAt k M_86  := P_80.fr (fun i h1 h2 => hfr_88 i (by omega) (by omega))
    have P_96 : StAt k M_86 21 cs2 ds2 := P_81.fr (fun i h1 h2 => hfr_88 i (by omega) (by omega))
    have P_97 : TrAt k M_86 25 tr2 cf2 := P_82.fr (fun i h1 h2 => hfr_88 i (by omega) (by omega))
    have P_98 : TxAt k M_86 tx := P_83.fr (fun i h1 h2 => hfr_88 i (by omega) (by omega))
    have P_99 : FmAt k M_86 3 (rdText tx).2.1 := P_84.fr (fun i h1 h2 => hfr_88 i (by omega) (by omega))
    have P_100 : MeAt k M_86 [] (fun _ => none) := P_74.fr (fun i h1 h2 => hfr_88 i (by omega) (by omega))
    refine v_aload_n X 0 dX7_load_65 rfl ?_
    refine v_get X cls7 F_92 (by omega) 1 (by decide) m_251 rfl rfl dX7_load_66 ?_
    obtain ⟨hN_101, hF_102, hl_103, g_104, F0_105, F3_106, hg_107⟩ := id P_89
    refine v_getN X cls5 F0_105 (by omega) 0 (by decide) nw_11 rfl rfl dX7_load_69 ?_
    obtain ⟨hN_109, hl_110, f_108, F_111, F_112, hf_113⟩ := id hF_102
    refine v_getN X cls1 F_111 (by omega) 1 (by decide) nw_5 rfl rfl dX7_load_72 ?_
    exact v_iret X rq ⟨by decide, by decide⟩ rfl dX7_load_75 ⟨_, rfl, ⟨hrd, rfl, (by have e : sNew (rdText tx).2.1 (ds.take 0) = [] := (by simp [sNew]); have W := (show SolAt k M_86 (rdText tx).2.1 (sNew (rdText tx).2.1 (ds.take 0)) [] (fun _ => none) tx from ⟨hN, F_92, P_98, P_89, (by rw [(sNew_spec _ _).1]; exact P_90), P_100, P_91, P_95, ⟨_, _, P_96⟩, ⟨_, _, P_97⟩, hV.new hco (by intro d hd; simp at hd) (by simp) (fun y hy => by cases hy) (fun j s h => by cases h)⟩); rw [e] at W; exact W)⟩, (fun i hi => by rw [hfr_88 i (by omega) (by omega), hfr_73 i (by omega), hfr_58 i (by omega), hfr_42 i (by omega), hfr_25 i (by omega), hfr_3 i (by omega) (by omega) (by omega)])⟩
  · have hrd : (rdText tx).1 ≠ none := fun w => c_15 (by rw [w]; rfl)
    exact v_throwS X rx hCR hst rfl (Or.inr (Or.inl rfl)) m_276 m_277 (List.mem_of_getElem? (i := 2) rfl) inE1 bad72 ot72 dX7_load_12 dX7_load_15 dX7_load_16 dX7_load_18 dX7_load_21 (by decide) (Nat.le_of_ble_eq_true rfl) (by decide) (by decide) ⟨⟨rfl, hrd⟩, ⟨hN, F_7, hTx2, P_8, P_9, P_10, P_11, P_12, ⟨_, _, P_13⟩, ⟨_, _, P_14⟩, hV⟩, (fun i hi => by rw [hfr_3 i (by omega) (by omega) (by omega)])⟩
set_option maxHeartbeats 4000000 in
set_option maxRecDepth 100000 in
theorem c_X7_learnInto (l : Launch) (k : KX) (M : Mem) (b bt : Nat) (cs ds : List Nat) (tr : List Ent) (q : Nat) (hS : StAt k M b cs ds) (hT : TrAt k M bt tr (some q)) (ho2 : csOK cs) (hl : cs.length < 24) (hap : b + 4 ≤ bt ∨ bt + 4 ≤ b) : CM l yX7_learnInto cX7_learnInto 4 ((some .int)) { frames := 4, cells := 0, slots := 0, locals := 89 } k [.ref (ad k b), .ref (ad k bt)] M (pI (fun r M' => r = nI (bjLev tr (lrnVars cs tr q)) ∧ StAt k M' b (cs ++ [falseCl tr (lrnVars cs tr q)]) (ds.take (bjLev tr (lrnVars cs tr q))) ∧ Fr b 4 M M')) := by
  refine CM.of (by decide) (Nat.le_of_ble_eq_true rfl) (fun C X hCl hCR rq => ?_)
  show V C k 4 (0, 0) M 0 [(0, .ref (ad k b)), (1, .ref (ad k bt))] []
  have hL := lrn_lt (cs := cs) (tr := tr) (c := q)
  have hbj := bj_le hT.2.1 (p := fun v => (lrnVars cs tr q &&& tB tr).testBit v) 8
  have hbj2 : bjLev tr (lrnVars cs tr q) ≤ 8 := hbj
  have hNb := hS.1
  have hNt := hT.1
  refine v_aload_n X 1 dX7_learnInto_0 rfl ?_
  refine v_aload_n X 0 dX7_learnInto_1 rfl ?_
  obtain ⟨hN_1, hF_2, hl_3, g_4, F0_5, F3_6, hg_7⟩ := id hS
  refine v_getN X cls5 F0_5 (by omega) 0 (by decide) nw_11 rfl rfl dX7_learnInto_2 ?_
  refine v_callV X hCl hCR (c_X6_learnedVariables l k M bt tr q (b + 1) cs hT hF_2 ho2) cls6 hT.obj (by omega) mo_X6_learnedVariables m_242 m_363 m_364 m_365 m_204 (by decide) rfl rfl (Nat.le_of_ble_eq_true rfl) ⟨rfl, rfl⟩ ⟨by decide, by decide⟩ dX7_learnInto_5 (vP_in ?_)
  refine v_istore_n X [(2, .int (nI (lrnVars cs tr q))), (0, .ref (ad k b)), (1, .ref (ad k bt))] dX7_learnInto_8 (by decide) rfl ?_
  refine v_aload_n X 2 dX7_learnInto_9 rfl ?_
  refine v_iload_n X 0 dX7_learnInto_10 rfl ?_
  refine v_callV X hCl hCR (c_X6_backjumpLevel l k M bt tr (some q) (lrnVars cs tr q) hT (by omega)) cls6 hT.obj (by omega) mo_X6_backjumpLevel m_243 m_366 m_367 m_368 m_204 (by decide) rfl rfl (Nat.le_of_ble_eq_true rfl) ⟨rfl, rfl⟩ ⟨by decide, by decide⟩ dX7_learnInto_11 (vP_in ?_)
  refine v_istore_n X [(3, .int (nI (bjLev tr (lrnVars cs tr q)))), (2, .int (nI (lrnVars cs tr q))), (0, .ref (ad k b)), (1, .ref (ad k bt))] dX7_learnInto_14 (by decide) rfl ?_
  refine v_aload_n X 2 dX7_learnInto_15 rfl ?_
  refine v_getN X cls5 F0_5 (by omega) 0 (by decide) nw_11 rfl rfl dX7_learnInto_16 ?_
  refine v_aload_n X 3 dX7_learnInto_19 rfl ?_
  refine v_iload_n X 1 dX7_learnInto_20 rfl ?_
  refine v_callV X hCl hCR (c_X6_falseClause l k M bt tr (some q) (lrnVars cs tr q) hT) cls6 hT.obj (by omega) mo_X6_falseClause m_245 m_369 m_370 m_371 m_204 (by decide) rfl rfl (Nat.le_of_ble_eq_true rfl) ⟨rfl, rfl⟩ ⟨by decide, by decide⟩ dX7_learnInto_21 (vP_in ?_)
  refine v_callV X hCl hCR (c_X1_add l k M (b + 1) cs (falseCl tr (lrnVars cs tr q)) hF_2 hl) cls1 hF_2.obj (by omega) mo_X1_add m_47 m_328 m_92 m_93 m_15 (by decide) rfl rfl (Nat.le_of_ble_eq_true rfl) ⟨rfl, rfl⟩ ⟨by decide, by decide⟩ dX7_learnInto_24 (vV_in (fun M_8 hp_9 => ?_))
  obtain ⟨P_11, hfr_10⟩ := hp_9
  have F_12 : M_8 b = .inr (5, [.ref (ad k (b + 1)), .ref (ad k (b + 3)), .int (nI ds.length)]) := by rw [hfr_10 b (by omega)]; exact F0_5
  have F_13 : M_8 (b + 3) = .inl (kI k, 8, .inl (fun zq => nI (g_4 zq))) := by rw [hfr_10 (b + 3) (by omega)]; exact F3_6
  have P_14 : TrAt k M_8 bt tr (some q) := hT.fr (fun i h1 h2 => hfr_10 i (by omega))
  refine v_aload_n X 2 dX7_learnInto_27 rfl ?_
  refine v_iload_n X 0 dX7_learnInto_28 rfl ?_
  have P_19 : StAt k M_8 b (cs ++ [falseCl tr (lrnVars cs tr q)]) ds := ⟨hN_1, P_11, hl_3, _, F_12, F_13, hg_7⟩
  refine v_callV X hCl hCR (c_X5_keepDecisions l k M_8 b (cs ++ [falseCl tr (lrnVars cs tr q)]) ds (bjLev tr (lrnVars cs tr q)) P_19 (by omega)) cls5 ⟨_, F_12⟩ (by omega) mo_X5_keepDecisions m_177 m_291 m_229 m_230 m_133 (by decide) rfl rfl (Nat.le_of_ble_eq_true rfl) ⟨rfl, rfl⟩ ⟨by decide, by decide⟩ dX7_learnInto_29 (vV_in (fun M_15 hp_16 => ?_))
  obtain ⟨P_18, hfr_17⟩ := hp_16
  have P_20 : TrAt k M_15 bt tr (some q) := P_14.fr (fun i h1 h2 => hfr_17 i (by omega))
  refine v_iload_n X 0 dX7_learnInto_32 rfl ?_
  exact v_iret X rq ⟨by decide, by decide⟩ rfl dX7_learnInto_33 ⟨_, rfl, rfl, P_18, (fun i hi => by rw [hfr_17 i (by omega), hfr_10 i (by omega)])⟩
set_option maxHeartbeats 4000000 in
set_option maxRecDepth 100000 in
theorem c_X7_learn (l : Launch) (hst0 : l.stackTraces = false) (k : KX) (M : Mem) (cs ds : List Nat) (mem : List SD) (sl : Nat → Option SD) (tx : List Nat) (hSol : SolAt k M cs ds mem sl tx) : CX l yX7_learn cX7_learn 2 ((some .int)) { frames := 7, cells := 2, slots := 12, locals := 135 } k [.ref (ad k 0)] M (pI (fun r M' => (∃ q, (build cs ds).2 = some q ∧ ds.length ≠ 0 ∧ cs.length < 24 ∧ r = nI (bjLev (build cs ds).1 (lrnVars cs (build cs ds).1 q)) ∧ SolAt k M' ((cs ++ [falseCl (build cs ds).1 (lrnVars cs (build cs ds).1 q)])) (sNew (cs ++ [falseCl (build cs ds).1 (lrnVars cs (build cs ds).1 q)]) (ds.take (bjLev (build cs ds).1 (lrnVars cs (build cs ds).1 q)))) (remF mem (cs, ds)) sl tx) ∧ Fr 0 93 M M')) (fun E M' => (E = xISE ∧ ((build cs ds).2 = none ∨ ds.length = 0 ∨ 24 ≤ cs.length)) ∧ SolAt k M' cs ds mem sl tx ∧ Fr 0 93 M M') := by
  refine CX.of (by decide) (Nat.le_of_ble_eq_true rfl) (fun C X hCl hCR rx => ?_)
  have rq := rx.q
  have hst : (C_l C).stackTraces = false := by rw [hCl]; exact hst0
  show V C k 2 (0, 0) M 0 [(0, .ref (ad k 0))] []
  obtain ⟨hN, F0, hTx, hS, hT, hMe, hMo, hEl, ⟨cs2, ds2, hS2⟩, ⟨tr2, cf2, hT2⟩, hV⟩ := id hSol
  have ho2 : csOK cs := hV.1.1
  have hds : ∀ d ∈ ds, d < 16 := hV.1.2.1
  have hlc : cs.length ≤ 24 := ho2.1
  have hld : ds.length ≤ 8 := hV.1.2.2
  have hok := cAt_ok ho2
  have hTL := hV.2.1
  refine v_aload_n X 0 dX7_learn_0 rfl ?_
  refine vx_callV' X rx.2.1 hCl hCR (c_X7_requireAnalysis l hst0 k M cs ds (build cs ds).1 (build cs ds).2 hN F0 hS hT) cls7 ⟨_, F0⟩ (by omega) mo_X7_requireAnalysis m_362 m_373 m_374 m_375 m_21 (by decide) rfl rfl (Nat.le_of_ble_eq_true rfl) ⟨by decide, by decide⟩ dX7_learn_1 (vV_in (fun M_1 hp_2 => ?_)) (fun E M_4 hx => v_out X rx ⟨by decide, by decide⟩ (⟨⟨hx.1, hx.2.1.elim Or.inl (fun w => Or.inr (Or.inl w))⟩, (by obtain ⟨-, -, rfl⟩ := hx; exact hSol), (by obtain ⟨-, -, rfl⟩ := hx; exact Fr.rf)⟩))
  obtain ⟨rfl, hq_3⟩ := hp_2
  have hq := hq_3
  refine v_aload_n X 0 dX7_learn_4 rfl ?_
  refine vx_callV' X rx.2.1 hCl hCR (c_X7_requireRoom l hst0 k M cs ds hN F0 hS) cls7 ⟨_, F0⟩ (by omega) mo_X7_requireRoom m_323 m_332 m_333 m_334 m_21 (by decide) rfl rfl (Nat.le_of_ble_eq_true rfl) ⟨by decide, by decide⟩ dX7_learn_5 (vV_in (fun M_5 hp_6 => ?_)) (fun E M_8 hx => v_out X rx ⟨by decide, by decide⟩ (⟨⟨hx.1, Or.inr (Or.inr hx.2.1)⟩, (by obtain ⟨-, -, rfl⟩ := hx; exact hSol), (by obtain ⟨-, -, rfl⟩ := hx; exact Fr.rf)⟩))
  obtain ⟨rfl, hq_7⟩ := hp_6
  have hr := hq_7
  obtain ⟨q, hq9⟩ := Option.ne_none_iff_exists'.mp hq.1
  have hc2 := ho2.app hr (falseCl_ok (tr := (build cs ds).1) (lrn_lt (cs := cs) (tr := (build cs ds).1) (c := q)))
  have hd2 : ∀ y ∈ (ds.take (bjLev (build cs ds).1 (lrnVars cs (build cs ds).1 q))), y < 16 := fun y hy => hds y (List.mem_of_mem_take hy)
  refine v_aload_n X 0 dX7_learn_8 rfl ?_
  refine v_get X cls7 F0 (by omega) 3 (by decide) m_257 rfl rfl dX7_learn_9 ?_
  refine v_aload_n X 0 dX7_learn_12 rfl ?_
  refine v_get X cls7 F0 (by omega) 1 (by decide) m_251 rfl rfl dX7_learn_13 ?_
  refine v_callV X hCl hCR (c_X3_remember l k M mem sl cs ds hMe hS) cls3 hMe.obj (by omega) mo_X3_remember m_151 m_325 m_326 m_327 m_148 (by decide) rfl rfl (Nat.le_of_ble_eq_true rfl) ⟨rfl, rfl⟩ ⟨by decide, by decide⟩ dX7_learn_16 (vV_in (fun M_9 hp_10 => ?_))
  obtain ⟨P_12, hfr_11⟩ := hp_10
  have F_13 : M_9 0 = .inr (7, [.ref (ad k 1), .ref (ad k 5), .ref (ad k 9), .ref (ad k 13), .ref (ad k 17), .ref (ad k 19), .ref (ad k 21), .ref (ad k 25)]) := by rw [hfr_11 0 (by omega)]; exact F0
  have P_14 : TxAt k M_9 tx := hTx.fr (fun i h1 h2 => hfr_11 i (by omega))
  have P_15 : StAt k M_9 5 cs ds := hS.fr (fun i h1 h2 => hfr_11 i (by omega))
  have P_16 : TrAt k M_9 9 (build cs ds).1 (build cs ds).2 := hT.fr (fun i h1 h2 => hfr_11 i (by omega))
  have P_17 : MoAt k M_9 cs := hMo.fr (fun i h1 h2 => hfr_11 i (by omega))
  have P_18 : ElAt k M_9  := hEl.fr (fun i h1 h2 => hfr_11 i (by omega))
  have P_19 : StAt k M_9 21 cs2 ds2 := hS2.fr (fun i h1 h2 => hfr_11 i (by omega))
  have P_20 : TrAt k M_9 25 tr2 cf2 := hT2.fr (fun i h1 h2 => hfr_11 i (by omega))
  refine v_aload_n X 0 dX7_learn_19 rfl ?_
  refine v_get X cls7 F_13 (by omega) 1 (by decide) m_251 rfl rfl dX7_learn_20 ?_
  refine v_aload_n X 0 dX7_learn_23 rfl ?_
  refine v_get X cls7 F_13 (by omega) 2 (by decide) m_254 rfl rfl dX7_learn_24 ?_
  have T_21 : TrAt k M_9 9 (build cs ds).1 (some q) := by rw [← hq9]; exact P_16
  refine v_callS X hCl hCR (c_X7_learnInto l k M_9 5 9 cs ds (build cs ds).1 q P_15 T_21 ho2 hr (by omega)) mo_X7_learnInto m_372 m_376 m_377 m_21 (by decide) rfl rfl (Nat.le_of_ble_eq_true rfl) ⟨rfl, rfl⟩ ⟨by decide, by decide⟩ dX7_learn_27 (vI_in (fun r_25 M_22 hp_23 => ?_))
  obtain ⟨he_26, P_27, hfr_24⟩ := hp_23
  subst he_26
  have F_28 : M_22 0 = .inr (7, [.ref (ad k 1), .ref (ad k 5), .ref (ad k 9), .ref (ad k 13), .ref (ad k 17), .ref (ad k 19), .ref (ad k 21), .ref (ad k 25)]) := by rw [hfr_24 0 (by omega)]; exact F_13
  have P_29 : TxAt k M_22 tx := P_14.fr (fun i h1 h2 => hfr_24 i (by omega))
  have P_30 : TrAt k M_22 9 (build cs ds).1 (some q) := T_21.fr (fun i h1 h2 => hfr_24 i (by omega))
  have P_31 : MoAt k M_22 cs := P_17.fr (fun i h1 h2 => hfr_24 i (by omega))
  have P_32 : ElAt k M_22  := P_18.fr (fun i h1 h2 => hfr_24 i (by omega))
  have P_33 : StAt k M_22 21 cs2 ds2 := P_19.fr (fun i h1 h2 => hfr_24 i (by omega))
  have P_34 : TrAt k M_22 25 tr2 cf2 := P_20.fr (fun i h1 h2 => hfr_24 i (by omega))
  have P_35 : MeAt k M_22 (remF mem (cs, ds)) sl := P_12.fr (fun i h1 h2 => hfr_24 i (by omega))
  refine v_istore_n X [(1, .int (nI (bjLev (build cs ds).1 (lrnVars cs (build cs ds).1 q)))), (0, .ref (ad k 0))] dX7_learn_30 (by decide) rfl ?_
  refine v_aload_n X 1 dX7_learn_31 rfl ?_
  refine v_callV X hCl hCR (c_X7_rebuild l k M_22 (cs ++ [falseCl (build cs ds).1 (lrnVars cs (build cs ds).1 q)]) (ds.take (bjLev (build cs ds).1 (lrnVars cs (build cs ds).1 q))) cs (build cs ds).1 (some q) hN F_28 P_27 P_30 P_31 hc2 hd2) cls7 ⟨_, F_28⟩ (by omega) mo_X7_rebuild m_289 m_298 m_299 m_300 m_21 (by decide) rfl rfl (Nat.le_of_ble_eq_true rfl) ⟨rfl, rfl⟩ ⟨by decide, by decide⟩ dX7_learn_32 (vV_in (fun M_36 hp_37 => ?_))
  obtain ⟨P_39, P_40, P_41, hfr_38⟩ := hp_37
  have F_42 : M_36 0 = .inr (7, [.ref (ad k 1), .ref (ad k 5), .ref (ad k 9), .ref (ad k 13), .ref (ad k 17), .ref (ad k 19), .ref (ad k 21), .ref (ad k 25)]) := by rw [hfr_38 0 (by omega) (by omega)]; exact F_28
  have P_43 : TxAt k M_36 tx := P_29.fr (fun i h1 h2 => hfr_38 i (by omega) (by omega))
  have P_44 : ElAt k M_36  := P_32.fr (fun i h1 h2 => hfr_38 i (by omega) (by omega))
  have P_45 : StAt k M_36 21 cs2 ds2 := P_33.fr (fun i h1 h2 => hfr_38 i (by omega) (by omega))
  have P_46 : TrAt k M_36 25 tr2 cf2 := P_34.fr (fun i h1 h2 => hfr_38 i (by omega) (by omega))
  have P_47 : MeAt k M_36 (remF mem (cs, ds)) sl := P_35.fr (fun i h1 h2 => hfr_38 i (by omega) (by omega))
  refine v_iload_n X 0 dX7_learn_35 rfl ?_
  exact v_iret X rq ⟨by decide, by decide⟩ rfl dX7_learn_36 ⟨_, rfl, ⟨q, hq9, hq.2, hr, rfl, ⟨hN, F_42, P_43, P_39, (by rw [(sNew_spec _ _).1]; exact P_40), P_47, P_41, P_44, ⟨_, _, P_45⟩, ⟨_, _, P_46⟩, hV.act hc2 hd2 (by rw [List.length_take]; omega)⟩⟩, (fun i hi => by rw [hfr_38 i (by omega) (by omega), hfr_24 i (by omega), hfr_11 i (by omega)])⟩
set_option maxHeartbeats 4000000 in
set_option maxRecDepth 100000 in
theorem c_X7_learnedClause (l : Launch) (hst0 : l.stackTraces = false) (k : KX) (M : Mem) (cs ds : List Nat) (mem : List SD) (sl : Nat → Option SD) (tx : List Nat) (hSol : SolAt k M cs ds mem sl tx) : CX l yX7_learnedClause cX7_learnedClause 1 ((some .int)) { frames := 7, cells := 1, slots := 6, locals := 110 } k [.ref (ad k 0)] M (pI (fun r M' => ((∃ q, (build cs ds).2 = some q ∧ ds.length ≠ 0 ∧ r = nI (falseCl (build cs ds).1 (lrnVars cs (build cs ds).1 q)))) ∧ SolAt k M' cs ds mem sl tx ∧ Fr 0 93 M M')) (fun E M' => (E = xISE ∧ ((build cs ds).2 = none ∨ ds.length = 0)) ∧ SolAt k M' cs ds mem sl tx ∧ Fr 0 93 M M') := by
  refine CX.of (by decide) (Nat.le_of_ble_eq_true rfl) (fun C X hCl hCR rx => ?_)
  have rq := rx.q
  have hst : (C_l C).stackTraces = false := by rw [hCl]; exact hst0
  show V C k 1 (0, 0) M 0 [(0, .ref (ad k 0))] []
  obtain ⟨hN, F0, hTx, hS, hT, hMe, hMo, hEl, ⟨cs2, ds2, hS2⟩, ⟨tr2, cf2, hT2⟩, hV⟩ := id hSol
  have ho2 : csOK cs := hV.1.1
  have hds : ∀ d ∈ ds, d < 16 := hV.1.2.1
  have hlc : cs.length ≤ 24 := ho2.1
  have hld : ds.length ≤ 8 := hV.1.2.2
  have hok := cAt_ok ho2
  have hTL := hV.2.1
  refine v_aload_n X 0 dX7_learnedClause_0 rfl ?_
  refine vx_callV' X rx.2.1 hCl hCR (c_X7_requireAnalysis l hst0 k M cs ds (build cs ds).1 (build cs ds).2 hN F0 hS hT) cls7 ⟨_, F0⟩ (by omega) mo_X7_requireAnalysis m_362 m_373 m_374 m_375 m_21 (by decide) rfl rfl (Nat.le_of_ble_eq_true rfl) ⟨by decide, by decide⟩ dX7_learnedClause_1 (vV_in (fun M_1 hp_2 => ?_)) (fun E M_4 hx => v_out X rx ⟨by decide, by decide⟩ (⟨⟨hx.1, hx.2.1⟩, (by obtain ⟨-, -, rfl⟩ := hx; exact hSol), (by obtain ⟨-, -, rfl⟩ := hx; exact Fr.rf)⟩))
  obtain ⟨rfl, hq_3⟩ := hp_2
  have hq := hq_3
  obtain ⟨q, hq9⟩ := Option.ne_none_iff_exists'.mp hq.1
  have T_5 : TrAt k M 9 (build cs ds).1 (some q) := by rw [← hq9]; exact hT
  refine v_aload_n X 0 dX7_learnedClause_4 rfl ?_
  refine v_get X cls7 F0 (by omega) 2 (by decide) m_254 rfl rfl dX7_learnedClause_5 ?_
  refine v_aload_n X 0 dX7_learnedClause_8 rfl ?_
  refine v_get X cls7 F0 (by omega) 2 (by decide) m_254 rfl rfl dX7_learnedClause_9 ?_
  refine v_aload_n X 0 dX7_learnedClause_12 rfl ?_
  refine v_get X cls7 F0 (by omega) 1 (by decide) m_251 rfl rfl dX7_learnedClause_13 ?_
  obtain ⟨hN_6, hF_7, hl_8, g_9, F0_10, F3_11, hg_12⟩ := id hS
  refine v_getN X cls5 F0_10 (by omega) 0 (by decide) nw_11 rfl rfl dX7_learnedClause_16 ?_
  refine v_callV X hCl hCR (c_X6_learnedVariables l k M 9 (build cs ds).1 q 6 cs T_5 hF_7 ho2) cls6 T_5.obj (by omega) mo_X6_learnedVariables m_242 m_363 m_364 m_365 m_204 (by decide) rfl rfl (Nat.le_of_ble_eq_true rfl) ⟨rfl, rfl⟩ ⟨by decide, by decide⟩ dX7_learnedClause_19 (vP_in ?_)
  refine v_callV X hCl hCR (c_X6_falseClause l k M 9 (build cs ds).1 (some q) (lrnVars cs (build cs ds).1 q) T_5) cls6 T_5.obj (by omega) mo_X6_falseClause m_245 m_369 m_370 m_371 m_204 (by decide) rfl rfl (Nat.le_of_ble_eq_true rfl) ⟨rfl, rfl⟩ ⟨by decide, by decide⟩ dX7_learnedClause_22 (vP_in ?_)
  exact v_iret X rq ⟨by decide, by decide⟩ rfl dX7_learnedClause_25 ⟨_, rfl, ⟨q, hq9, hq.2, rfl⟩, hSol, Fr.rf⟩
set_option maxHeartbeats 4000000 in
set_option maxRecDepth 100000 in
theorem c_X7_core (l : Launch) (k : KX) (M : Mem) (cs ds : List Nat) (mem : List SD) (sl : Nat → Option SD) (tx : List Nat) (hSol : SolAt k M cs ds mem sl tx) : CM l yX7_core cX7_core 4 ((some .int)) { frames := 4, cells := 0, slots := 0, locals := 88 } k [.ref (ad k 0)] M (pI (fun r M' => (r = oI (coreO cs)) ∧ SolAt k M' cs ds mem sl tx ∧ Fr 0 93 M M')) := by
  refine CM.of (by decide) (Nat.le_of_ble_eq_true rfl) (fun C X hCl hCR rq => ?_)
  show V C k 4 (0, 0) M 0 [(0, .ref (ad k 0))] []
  obtain ⟨hN, F0, hTx, hS, hT, hMe, hMo, hEl, ⟨cs2, ds2, hS2⟩, ⟨tr2, cf2, hT2⟩, hV⟩ := id hSol
  have ho2 : csOK cs := hV.1.1
  have hds : ∀ d ∈ ds, d < 16 := hV.1.2.1
  have hlc : cs.length ≤ 24 := ho2.1
  have hld : ds.length ≤ 8 := hV.1.2.2
  have hok := cAt_ok ho2
  have hTL := hV.2.1
  have hsh := one_shl_lt hlc
  have L : ∀ (fu : Nat) (i w : Nat) (M1 : Mem), cs.length - i < fu → (canS cs (1 <<< cs.length - 1) = false) → (i ≤ cs.length) → (coreF cs (1 <<< cs.length - 1) i = w) → (SolAt k M1 cs ds mem sl tx) → (Fr 0 93 M M1) → M1 0 = .inr (7, [.ref (ad k 1), .ref (ad k 5), .ref (ad k 9), .ref (ad k 13), .ref (ad k 17), .ref (ad k 19), .ref (ad k 21), .ref (ad k 25)]) → StAt k M1 5 cs ds → MoOK k M1 cs → V C k 4 (0, 0) M1 45 [(0, .ref (ad k 0)), (1, .int (nI w)), (2, .int (nI i))] [] := by
    intro fu
    induction fu with
    | zero => intro i w M1 hfu; exact absurd hfu (Nat.not_lt_zero _)
    | succ fu ih =>
      intro i w M1 hfu h37 hi hw hsol hfr1 G0 hS1 hM1
      refine v_iload_n X 2 dX7_core_45 rfl ?_
      refine v_aload_n X 0 dX7_core_46 rfl ?_
      refine v_get X cls7 G0 (by omega) 1 (by decide) m_251 rfl rfl dX7_core_47 ?_
      obtain ⟨hN_1, hF_2, hl_3, g_4, F0_5, F3_6, hg_7⟩ := id hS1
      refine v_getN X cls5 F0_5 (by omega) 0 (by decide) nw_11 rfl rfl dX7_core_50 ?_
      obtain ⟨hN_9, hl_10, f_8, F_11, F_12, hf_13⟩ := id hF_2
      refine v_getN X cls1 F_11 (by omega) 1 (by decide) nw_5 rfl rfl dX7_core_53 ?_
      refine v_cgeN X 86 (by omega) (by omega) dX7_core_56 (by decide) (fun c_14 => ?_) (fun c_14 => ?_)
      · refine v_iload_n X 1 dX7_core_86 rfl ?_
        exact v_iret X rq ⟨by decide, by decide⟩ rfl dX7_core_87 ⟨_, rfl, by unfold coreO; rw [if_neg (by simp [h37]), ← hw, show i = cs.length by omega]; rfl, hsol, hfr1⟩
      · have hwl := coreF_lt (cs := cs) (m := 1 <<< cs.length - 1) (by omega) i
        rw [hw] at hwl
        have hwl2 := mdiff_lt (b := 1 <<< i) hwl
        refine v_iload_n X 1 dX7_core_59 rfl ?_
        refine v_iconst X (v := nI 1) (by decide) dX7_core_60 ?_
        refine v_iload_n X 2 dX7_core_61 rfl ?_
        refine v_shlN X (by omega) dX7_core_62 ?_
        refine v_iconst X (v := nI 4294967295) (by decide) dX7_core_63 ?_
        refine v_xorN X dX7_core_64 ?_
        refine v_andN X dX7_core_65 ?_
        refine v_top (show (Value.int (nI (w &&& ((1 <<< i) ^^^ 4294967295))) : Value) = .int (nI (mdiff w (1 <<< i))) from congrArg _ (rfl)) ?_
        refine v_istore_n X [(3, .int (nI (mdiff w (1 <<< i)))), (0, .ref (ad k 0)), (1, .int (nI w)), (2, .int (nI i))] dX7_core_66 (by decide) rfl ?_
        refine v_aload_n X 1 dX7_core_67 rfl ?_
        refine v_get X cls7 G0 (by omega) 4 (by decide) m_260 rfl rfl dX7_core_68 ?_
        refine v_iload_n X 0 dX7_core_71 rfl ?_
        refine v_callV X hCl hCR (c_X4_canSatisfy l k M1 cs (mdiff w (1 <<< i)) hM1 (by omega)) cls4 hM1.obj (by omega) mo_X4_canSatisfy m_174 m_410 m_411 m_412 m_169 (by decide) rfl rfl (Nat.le_of_ble_eq_true rfl) ⟨rfl, rfl⟩ ⟨by decide, by decide⟩ dX7_core_72 (vP_in ?_)
        refine v_ineB X 80 dX7_core_75 (by decide) (fun c_15 => ?_) (fun c_15 => ?_)
        · have hb := c_15
          refine v_iinc X (v := nI (i + 1)) 3 [(2, .int (nI (i + 1))), (3, .int (nI (mdiff w (1 <<< i)))), (0, .ref (ad k 0)), (1, .int (nI w))] dX7_core_80 rfl (nI_1 _) (by decide) rfl ?_
          refine v_goto X 45 dX7_core_83 (by decide) ?_
          refine v_lv [2, 3, 0] rfl ?_
          exact ih (i + 1) (w) M1 (by omega) h37 (by omega) (by rw [core_t (by rw [hw]; exact hb), hw]) hsol hfr1 G0 hS1 hM1
        · have hb := c_15
          refine v_iload_n X 0 dX7_core_78 rfl ?_
          refine v_istore_n X [(1, .int (nI (mdiff w (1 <<< i)))), (3, .int (nI (mdiff w (1 <<< i)))), (0, .ref (ad k 0)), (2, .int (nI i))] dX7_core_79 (by decide) rfl ?_
          refine v_iinc X (v := nI (i + 1)) 3 [(2, .int (nI (i + 1))), (1, .int (nI (mdiff w (1 <<< i)))), (3, .int (nI (mdiff w (1 <<< i)))), (0, .ref (ad k 0))] dX7_core_80 rfl (nI_1 _) (by decide) rfl ?_
          refine v_goto X 45 dX7_core_83 (by decide) ?_
          refine v_lv [3, 1, 0] rfl ?_
          exact ih (i + 1) (mdiff w (1 <<< i)) M1 (by omega) h37 (by omega) (by rw [core_f (by rw [hw]; exact hb), hw]) hsol hfr1 G0 hS1 hM1
  refine v_aload_n X 0 dX7_core_0 rfl ?_
  refine v_get X cls7 F0 (by omega) 4 (by decide) m_260 rfl rfl dX7_core_1 ?_
  refine v_aload_n X 0 dX7_core_4 rfl ?_
  refine v_get X cls7 F0 (by omega) 1 (by decide) m_251 rfl rfl dX7_core_5 ?_
  obtain ⟨hN_16, hF_17, hl_18, g_19, F0_20, F3_21, hg_22⟩ := id hS
  refine v_getN X cls5 F0_20 (by omega) 0 (by decide) nw_11 rfl rfl dX7_core_8 ?_
  refine v_callV X hCl hCR (c_X4_refresh l k M cs 6 hMo hF_17 ho2 (by omega)) cls4 hMo.obj (by omega) mo_X4_refresh m_170 m_394 m_395 m_396 m_169 (by decide) rfl rfl (Nat.le_of_ble_eq_true rfl) ⟨rfl, rfl⟩ ⟨by decide, by decide⟩ dX7_core_11 (vV_in (fun M_23 hp_24 => ?_))
  obtain ⟨P_26, hfr_25⟩ := hp_24
  have F_27 : M_23 0 = .inr (7, [.ref (ad k 1), .ref (ad k 5), .ref (ad k 9), .ref (ad k 13), .ref (ad k 17), .ref (ad k 19), .ref (ad k 21), .ref (ad k 25)]) := by rw [hfr_25 0 (by omega)]; exact F0
  have F_28 : M_23 5 = .inr (5, [.ref (ad k 6), .ref (ad k 8), .int (nI ds.length)]) := by rw [hfr_25 5 (by omega)]; exact F0_20
  have F_29 : M_23 8 = .inl (kI k, 8, .inl (fun zq => nI (g_19 zq))) := by rw [hfr_25 8 (by omega)]; exact F3_21
  have P_30 : TxAt k M_23 tx := hTx.fr (fun i h1 h2 => hfr_25 i (by omega))
  have P_31 : StAt k M_23 5 cs ds := hS.fr (fun i h1 h2 => hfr_25 i (by omega))
  have P_32 : TrAt k M_23 9 (build cs ds).1 (build cs ds).2 := hT.fr (fun i h1 h2 => hfr_25 i (by omega))
  have P_33 : MeAt k M_23 mem sl := hMe.fr (fun i h1 h2 => hfr_25 i (by omega))
  have P_34 : ElAt k M_23  := hEl.fr (fun i h1 h2 => hfr_25 i (by omega))
  have P_35 : StAt k M_23 21 cs2 ds2 := hS2.fr (fun i h1 h2 => hfr_25 i (by omega))
  have P_36 : TrAt k M_23 25 tr2 cf2 := hT2.fr (fun i h1 h2 => hfr_25 i (by omega))
  have P_37 : FmAt k M_23 6 cs := hF_17.fr (fun i h1 h2 => hfr_25 i (by omega))
  refine v_iconst X (v := nI 1) (by decide) dX7_core_14 ?_
  refine v_aload_n X 0 dX7_core_15 rfl ?_
  refine v_get X cls7 F_27 (by omega) 1 (by decide) m_251 rfl rfl dX7_core_16 ?_
  refine v_getN X cls5 F_28 (by omega) 0 (by decide) nw_11 rfl rfl dX7_core_19 ?_
  obtain ⟨hN_39, hl_40, f_38, F_41, F_42, hf_43⟩ := id P_37
  refine v_getN X cls1 F_41 (by omega) 1 (by decide) nw_5 rfl rfl dX7_core_22 ?_
  refine v_shlN X (by omega) dX7_core_25 ?_
  refine v_iconst X (v := nI 1) (by decide) dX7_core_26 ?_
  refine v_subN X (by omega) dX7_core_27 ?_
  refine v_istore_n X [(1, .int (nI ((1 <<< cs.length) - 1))), (0, .ref (ad k 0))] dX7_core_28 (by decide) rfl ?_
  refine v_aload_n X 1 dX7_core_29 rfl ?_
  refine v_get X cls7 F_27 (by omega) 4 (by decide) m_260 rfl rfl dX7_core_30 ?_
  refine v_iload_n X 0 dX7_core_33 rfl ?_
  refine v_callV X hCl hCR (c_X4_canSatisfy l k M_23 cs ((1 <<< cs.length) - 1) P_26 (by omega)) cls4 P_26.obj (by omega) mo_X4_canSatisfy m_174 m_410 m_411 m_412 m_169 (by decide) rfl rfl (Nat.le_of_ble_eq_true rfl) ⟨rfl, rfl⟩ ⟨by decide, by decide⟩ dX7_core_34 (vP_in ?_)
  refine v_ieqB X 43 dX7_core_37 (by decide) (fun c_44 => ?_) (fun c_44 => ?_)
  · have h37 := c_44
    refine v_iconst X (v := nI 0) (by decide) dX7_core_43 ?_
    refine v_istore_n X [(2, .int (nI 0)), (1, .int (nI ((1 <<< cs.length) - 1))), (0, .ref (ad k 0))] dX7_core_44 (by decide) rfl ?_
    refine v_lv [2, 1, 0] rfl ?_
    exact L (cs.length + 1) 0 (1 <<< cs.length - 1) M_23 (by omega) h37 (by omega) rfl ⟨hN, F_27, P_30, P_31, P_32, P_33, P_26.at, P_34, ⟨_, _, P_35⟩, ⟨_, _, P_36⟩, hV⟩ (fun i hi => by rw [hfr_25 i (by omega)]) F_27 P_31 P_26
  · have h37 := c_44
    refine v_bipush X (v := (-9)) (by decide) dX7_core_40 ?_
    exact v_iret X rq ⟨by decide, by decide⟩ rfl dX7_core_42 ⟨_, rfl, by unfold coreO; rw [if_pos h37]; rfl, ⟨hN, F_27, P_30, P_31, P_32, P_33, P_26.at, P_34, ⟨_, _, P_35⟩, ⟨_, _, P_36⟩, hV⟩, (fun i hi => by rw [hfr_25 i (by omega)])⟩
set_option maxHeartbeats 4000000 in
set_option maxRecDepth 100000 in
theorem c_X7_decideOpenVariables (l : Launch) (k : KX) (M : Mem) (c d : List Nat) (hN : 93 ≤ kN k) (F0 : M 0 = .inr (7, [.ref (ad k 1), .ref (ad k 5), .ref (ad k 9), .ref (ad k 13), .ref (ad k 17), .ref (ad k 19), .ref (ad k 21), .ref (ad k 25)])) (hS : StAt k M 21 c d) (hT : TrAt k M 25 (build c d).1 (build c d).2) (ho2 : csOK c) (hd : dOK c d) : CM l yX7_decideOpenVariables cX7_decideOpenVariables 2 none { frames := 5, cells := 0, slots := 0, locals := 115 } k [.ref (ad k 0)] M (pV (fun M' => StAt k M' 21 c (decF c d 8) ∧ TrAt k M' 25 (build c (decF c d 8)).1 (build c (decF c d 8)).2 ∧ dOK c (decF c d 8) ∧ ∀ i, (i < 21 ∨ 29 ≤ i) → M' i = M i)) := by
  refine CM.of (by decide) (Nat.le_of_ble_eq_true rfl) (fun C X hCl hCR rq => ?_)
  show V C k 2 (0, 0) M 0 [(0, .ref (ad k 0))] []
  have L : ∀ (fu : Nat) (v : Nat) (e : List Nat) (M1 : Mem), 8 - v < fu → (v ≤ 8) → (decF c d v = e) → (dOK c e) → (∀ i, (i < 21 ∨ 29 ≤ i) → M1 i = M i) → M1 0 = .inr (7, [.ref (ad k 1), .ref (ad k 5), .ref (ad k 9), .ref (ad k 13), .ref (ad k 17), .ref (ad k 19), .ref (ad k 21), .ref (ad k 25)]) → StAt k M1 21 c e → TrAt k M1 25 (build c e).1 (build c e).2 → V C k 2 (0, 0) M1 2 [(0, .ref (ad k 0)), (1, .int (nI v))] [] := by
    intro fu
    induction fu with
    | zero => intro v e M1 hfu; exact absurd hfu (Nat.not_lt_zero _)
    | succ fu ih =>
      intro v e M1 hfu hv he heo hfr G0 hS1 hT1
      refine v_iload_n X 1 dX7_decideOpenVariables_2 rfl ?_
      refine v_bipush X (v := nI 8) (by decide) dX7_decideOpenVariables_3 ?_
      refine v_cgeN X 60 (by omega) (by omega) dX7_decideOpenVariables_5 (by decide) (fun c_1 => ?_) (fun c_1 => ?_)
      · exact v_vret X rq ⟨by decide, by decide⟩ dX7_decideOpenVariables_60 ⟨rfl, (by rw [show decF c d 8 = e from (by rw [show (8 : Nat) = v by omega]; exact he)]; exact hS1), (by rw [show decF c d 8 = e from (by rw [show (8 : Nat) = v by omega]; exact he)]; exact hT1), (by rw [show decF c d 8 = e from (by rw [show (8 : Nat) = v by omega]; exact he)]; exact heo), hfr⟩
      · refine v_aload_n X 0 dX7_decideOpenVariables_8 rfl ?_
        refine v_get X cls7 G0 (by omega) 7 (by decide) m_265 rfl rfl dX7_decideOpenVariables_9 ?_
        obtain ⟨hN_2, hk_3, hc_4, o_5, lv_6, rs_7, F0_8, F1_9, F2_10, F3_11, ho_12, hv_13⟩ := id hT1
        have hk_3_A := hk_3.A
        have hk_3_T := hk_3.T
        have hk_3_B := hk_3.B
        have hk_3_l := hk_3.le
        have hk_3_L := tL_le ((build c e).1)
        refine v_getN X cls6 F0_8 (by omega) 8 (by decide) nw_16 rfl rfl dX7_decideOpenVariables_12 ?_
        refine v_bipush X (v := (-9)) (by decide) dX7_decideOpenVariables_15 ?_
        refine v_icmp_ne X 60 dX7_decideOpenVariables_17 (by decide) (fun c_14 => ?_) (fun c_14 => ?_)
        · have hcf : (build c e).2 ≠ none := fun w => c_14 (by rw [w]; rfl)
          exact v_vret X rq ⟨by decide, by decide⟩ dX7_decideOpenVariables_60 ⟨rfl, (by rw [show decF c d 8 = e from (by have w := decF_c he hcf (8 - v); rwa [show v + (8 - v) = 8 by omega] at w)]; exact hS1), (by rw [show decF c d 8 = e from (by have w := decF_c he hcf (8 - v); rwa [show v + (8 - v) = 8 by omega] at w)]; exact hT1), (by rw [show decF c d 8 = e from (by have w := decF_c he hcf (8 - v); rwa [show v + (8 - v) = 8 by omega] at w)]; exact heo), hfr⟩
        · have hcf : (build c e).2 = none := (oI_eq (fun n hn => by have := hc_4 n hn; omega)).mp c_14
          refine v_aload_n X 0 dX7_decideOpenVariables_20 rfl ?_
          refine v_get X cls7 G0 (by omega) 7 (by decide) m_265 rfl rfl dX7_decideOpenVariables_21 ?_
          refine v_iload_n X 1 dX7_decideOpenVariables_24 rfl ?_
          refine v_callV X hCl hCR (c_X6_isAssigned l k M1 25 (build c e).1 (build c e).2 v hT1 (by omega)) cls6 ⟨_, F0_8⟩ (by omega) mo_X6_isAssigned m_207 m_356 m_211 m_212 m_204 (by decide) rfl rfl (Nat.le_of_ble_eq_true rfl) ⟨rfl, rfl⟩ ⟨by decide, by decide⟩ dX7_decideOpenVariables_25 (vP_in ?_)
          refine v_ineB X 54 dX7_decideOpenVariables_28 (by decide) (fun c_15 => ?_) (fun c_15 => ?_)
          · have hb := c_15
            refine v_iinc X (v := nI (v + 1)) 1 [(1, .int (nI (v + 1))), (0, .ref (ad k 0))] dX7_decideOpenVariables_54 rfl (nI_1 _) (by decide) rfl ?_
            refine v_goto X 2 dX7_decideOpenVariables_57 (by decide) ?_
            refine v_lv [1, 0] rfl ?_
            exact ih (v + 1) e M1 (by omega) (by omega) (by show dstep c (decF c d v) v = e; rw [he]; exact dstep_f hb) heo hfr G0 hS1 hT1
          · have hb := c_15
            have he8 : e.length < 8 := by have h1 := hk_3.lt (show v < 8 by omega) hb; have h2 := tL_le (build c e).1; have h3 := heo.2.1; omega
            have he2 : ∀ y ∈ e ++ [2 * v], y < 16 := fun y hy => by rcases List.mem_append.mp hy with h | h; exact heo.1 y h; rw [List.mem_singleton.mp h]; omega
            refine v_aload_n X 0 dX7_decideOpenVariables_31 rfl ?_
            refine v_get X cls7 G0 (by omega) 6 (by decide) m_264 rfl rfl dX7_decideOpenVariables_32 ?_
            refine v_iload_n X 1 dX7_decideOpenVariables_35 rfl ?_
            refine v_iconst X (v := bI true) (by decide) dX7_decideOpenVariables_36 ?_
            refine v_callS X hCl hCR (c_X7_literalOf l k M1 v true) mo_X7_literalOf m_213 m_423 m_215 m_21 (by decide) rfl rfl (Nat.le_of_ble_eq_true rfl) ⟨rfl, rfl⟩ ⟨by decide, by decide⟩ dX7_decideOpenVariables_37 (vP_in ?_)
            refine v_top (show (Value.int (nI (2 * v + (if true then 0 else 1))) : Value) = .int (nI (2 * v)) from congrArg _ (rfl)) ?_
            refine v_callV X hCl hCR (c_X5_addDecision l k M1 21 c e (2 * v) hS1 he8) cls5 hS1.obj (by omega) mo_X5_addDecision m_176 m_357 m_358 m_359 m_133 (by decide) rfl rfl (Nat.le_of_ble_eq_true rfl) ⟨rfl, rfl⟩ ⟨by decide, by decide⟩ dX7_decideOpenVariables_40 (vV_in (fun M_16 hp_17 => ?_))
            obtain ⟨P_19, hfr_18⟩ := hp_17
            have F_20 : M_16 0 = .inr (7, [.ref (ad k 1), .ref (ad k 5), .ref (ad k 9), .ref (ad k 13), .ref (ad k 17), .ref (ad k 19), .ref (ad k 21), .ref (ad k 25)]) := by rw [hfr_18 0 (by omega)]; exact G0
            have F_21 : M_16 25 = .inr (6, [.ref (ad k 26), .ref (ad k 27), .ref (ad k 28), .int (nI (((build c e).1).length)), .int (nI (tA ((build c e).1))), .int (nI (tT ((build c e).1))), .int (nI (tL ((build c e).1))), .int (nI (tB ((build c e).1))), .int (oI ((build c e).2))]) := by rw [hfr_18 25 (by omega)]; exact F0_8
            have F_22 : M_16 26 = .inl (kI k, 8, .inl (fun zq => nI (o_5 zq))) := by rw [hfr_18 26 (by omega)]; exact F1_9
            have F_23 : M_16 27 = .inl (kI k, 8, .inl (fun zq => nI (lv_6 zq))) := by rw [hfr_18 27 (by omega)]; exact F2_10
            have F_24 : M_16 28 = .inl (kI k, 8, .inl (fun zq => oI (rs_7 zq))) := by rw [hfr_18 28 (by omega)]; exact F3_11
            have P_25 : TrAt k M_16 25 (build c e).1 (build c e).2 := hT1.fr (fun i h1 h2 => hfr_18 i (by omega))
            refine v_aload_n X 0 dX7_decideOpenVariables_43 rfl ?_
            refine v_get X cls7 F_20 (by omega) 7 (by decide) m_265 rfl rfl dX7_decideOpenVariables_44 ?_
            refine v_aload_n X 0 dX7_decideOpenVariables_47 rfl ?_
            refine v_get X cls7 F_20 (by omega) 6 (by decide) m_264 rfl rfl dX7_decideOpenVariables_48 ?_
            refine v_callV X hCl hCR (c_X6_build l k M_16 25 21 (build c e).1 (build c e).2 c (e ++ [2 * v]) P_25 P_19 ho2 he2 (by omega)) cls6 ⟨_, F_21⟩ (by omega) mo_X6_build m_231 m_286 m_287 m_288 m_204 (by decide) rfl rfl (Nat.le_of_ble_eq_true rfl) ⟨rfl, rfl⟩ ⟨by decide, by decide⟩ dX7_decideOpenVariables_51 (vV_in (fun M_26 hp_27 => ?_))
            obtain ⟨P_29, P_30, hfr_28⟩ := hp_27
            have F_31 : M_26 0 = .inr (7, [.ref (ad k 1), .ref (ad k 5), .ref (ad k 9), .ref (ad k 13), .ref (ad k 17), .ref (ad k 19), .ref (ad k 21), .ref (ad k 25)]) := by rw [hfr_28 0 (by omega) (by omega)]; exact F_20
            refine v_iinc X (v := nI (v + 1)) 1 [(1, .int (nI (v + 1))), (0, .ref (ad k 0))] dX7_decideOpenVariables_54 rfl (nI_1 _) (by decide) rfl ?_
            refine v_goto X 2 dX7_decideOpenVariables_57 (by decide) ?_
            have T_32 : TrAt k M_26 25 (build c (sNew c (e ++ [2 * v]))).1 (build c (sNew c (e ++ [2 * v]))).2 := by rw [(sNew_spec _ _).1]; exact P_29
            refine v_lv [1, 0] rfl ?_
            exact ih (v + 1) (sNew c (e ++ [2 * v])) M_26 (by omega) (by omega) (by show dstep c (decF c d v) v = _; rw [he]; exact dstep_t hcf hb) (dOK.new he2 (by simp; omega)) (fun i hi => by rw [hfr_28 i (by omega) (by omega), hfr_18 i (by omega)]; exact hfr i hi) F_31 P_30 T_32
  refine v_iconst X (v := nI 0) (by decide) dX7_decideOpenVariables_0 ?_
  refine v_istore_n X [(1, .int (nI 0)), (0, .ref (ad k 0))] dX7_decideOpenVariables_1 (by decide) rfl ?_
  refine v_lv [1, 0] rfl ?_
  exact L 9 0 d M (by omega) (by omega) rfl hd (fun _ _ => rfl) F0 hS hT
set_option maxHeartbeats 4000000 in
set_option maxRecDepth 100000 in
theorem c_X7_solve (l : Launch) (k : KX) (M : Mem) (cs ds : List Nat) (mem : List SD) (sl : Nat → Option SD) (tx : List Nat) (hSol : SolAt k M cs ds mem sl tx) : CM l yX7_solve cX7_solve 2 ((some .int)) { frames := 6, cells := 0, slots := 0, locals := 136 } k [.ref (ad k 0)] M (pI (fun r M' => (r = solveF 25 0 cs (sNew cs [])) ∧ SolAt k M' cs ds mem sl tx ∧ Fr 0 93 M M')) := by
  refine CM.of (by decide) (Nat.le_of_ble_eq_true rfl) (fun C X hCl hCR rq => ?_)
  show V C k 2 (0, 0) M 0 [(0, .ref (ad k 0))] []
  obtain ⟨hN, F0, hTx, hS, hT, hMe, hMo, hEl, ⟨cs2, ds2, hS2⟩, ⟨tr2, cf2, hT2⟩, hV⟩ := id hSol
  have ho2 : csOK cs := hV.1.1
  have hds : ∀ d ∈ ds, d < 16 := hV.1.2.1
  have hlc : cs.length ≤ 24 := ho2.1
  have hld : ds.length ≤ 8 := hV.1.2.2
  have hok := cAt_ok ho2
  have hTL := hV.2.1
  have L : ∀ (fu : Nat) (n : Nat) (c d : List Nat) (M1 : Mem), 25 - n < fu → (n ≤ 25) → (csOK c) → (dOK c d) → (solveF (25 - n) n c d = solveF 25 0 cs (sNew cs [])) → (∀ i, (i < 21 ∨ 29 ≤ i) → M1 i = M i) → M1 0 = .inr (7, [.ref (ad k 1), .ref (ad k 5), .ref (ad k 9), .ref (ad k 13), .ref (ad k 17), .ref (ad k 19), .ref (ad k 21), .ref (ad k 25)]) → StAt k M1 21 c d → TrAt k M1 25 (build c d).1 (build c d).2 → V C k 2 (0, 0) M1 38 [(0, .ref (ad k 0)), (1, .int (nI n))] [] := by
    intro fu
    induction fu with
    | zero => intro n c d M1 hfu; exact absurd hfu (Nat.not_lt_zero _)
    | succ fu ih =>
      intro n c d M1 hfu hn hco hdo hres hfr G0 hS1 hT1
      refine v_iload_n X 1 dX7_solve_38 rfl ?_
      refine v_bipush X (v := nI 24) (by decide) dX7_solve_39 ?_
      refine v_cgtN X 121 (by omega) (by omega) dX7_solve_41 (by decide) (fun c_1 => ?_) (fun c_1 => ?_)
      · refine v_bipush X (v := (-90)) (by decide) dX7_solve_121 ?_
        exact v_iret X rq ⟨by decide, by decide⟩ rfl dX7_solve_123 ⟨_, rfl, (by rw [← hres, show 25 - n = 0 by omega]; rfl), hSol.cp (fun i hi => hfr i (by omega)) hS1 hT1, (fun i hi => hfr i (by omega))⟩
      · have hres1 := hres
        rw [show 25 - n = (25 - n - 1) + 1 by omega] at hres1
        refine v_aload_n X 0 dX7_solve_44 rfl ?_
        refine v_callV X hCl hCR (c_X7_decideOpenVariables l k M1 c d hN G0 hS1 hT1 hco hdo) cls7 ⟨_, G0⟩ (by omega) mo_X7_decideOpenVariables m_424 m_425 m_426 m_427 m_21 (by decide) rfl rfl (Nat.le_of_ble_eq_true rfl) ⟨rfl, rfl⟩ ⟨by decide, by decide⟩ dX7_solve_45 (vV_in (fun M_2 hp_3 => ?_))
        obtain ⟨P_5, P_6, ho_7, hfr_4⟩ := hp_3
        have hdo2 := ho_7
        have F_8 : M_2 0 = .inr (7, [.ref (ad k 1), .ref (ad k 5), .ref (ad k 9), .ref (ad k 13), .ref (ad k 17), .ref (ad k 19), .ref (ad k 21), .ref (ad k 25)]) := by rw [hfr_4 0 (by omega)]; exact G0
        refine v_aload_n X 0 dX7_solve_48 rfl ?_
        refine v_get X cls7 F_8 (by omega) 7 (by decide) m_265 rfl rfl dX7_solve_49 ?_
        obtain ⟨hN_9, hk_10, hc_11, o_12, lv_13, rs_14, F0_15, F1_16, F2_17, F3_18, ho_19, hv_20⟩ := id P_6
        have hk_10_A := hk_10.A
        have hk_10_T := hk_10.T
        have hk_10_B := hk_10.B
        have hk_10_l := hk_10.le
        have hk_10_L := tL_le ((build c (decF c d 8)).1)
        refine v_getN X cls6 F0_15 (by omega) 8 (by decide) nw_16 rfl rfl dX7_solve_52 ?_
        refine v_bipush X (v := (-9)) (by decide) dX7_solve_55 ?_
        refine v_icmp_ne X 62 dX7_solve_57 (by decide) (fun c_21 => ?_) (fun c_21 => ?_)
        · obtain ⟨q, hq9⟩ := Option.ne_none_iff_exists'.mp (fun w => c_21 (by rw [w]; rfl) : (build c (decF c d 8)).2 ≠ none)
          refine v_aload_n X 0 dX7_solve_62 rfl ?_
          refine v_get X cls7 F_8 (by omega) 6 (by decide) m_264 rfl rfl dX7_solve_63 ?_
          obtain ⟨hN_22, hF_23, hl_24, g_25, F0_26, F3_27, hg_28⟩ := id P_5
          refine v_getN X cls5 F0_26 (by omega) 2 (by decide) nw_13 rfl rfl dX7_solve_66 ?_
          refine v_ineN X 76 (by omega) dX7_solve_69 (by decide) (fun c_29 => ?_) (fun c_29 => ?_)
          · have hz := c_29
            refine v_aload_n X 0 dX7_solve_76 rfl ?_
            refine v_get X cls7 F_8 (by omega) 6 (by decide) m_264 rfl rfl dX7_solve_77 ?_
            refine v_getN X cls5 F0_26 (by omega) 0 (by decide) nw_11 rfl rfl dX7_solve_80 ?_
            refine v_callV X hCl hCR (c_X1_isFull l k M_2 22 c hF_23) cls1 hF_23.obj (by omega) mo_X1_isFull m_46 m_324 m_49 m_50 m_15 (by decide) rfl rfl (Nat.le_of_ble_eq_true rfl) ⟨rfl, rfl⟩ ⟨by decide, by decide⟩ dX7_solve_83 (vP_in ?_)
            refine v_ieqB X 92 dX7_solve_86 (by decide) (fun c_30 => ?_) (fun c_30 => ?_)
            · have hful := of_decide_eq_false c_30
              have hful := Nat.lt_of_not_le hful
              have hc2 := hco.app hful (falseCl_ok (tr := (build c (decF c d 8)).1) (lrn_lt (cs := c) (tr := (build c (decF c d 8)).1) (c := q)))
              have hd2 : ∀ y ∈ ((decF c d 8).take (bjLev (build c (decF c d 8)).1 (lrnVars c (build c (decF c d 8)).1 q))), y < 16 := fun y hy => hdo2.1 y (List.mem_of_mem_take hy)
              refine v_aload_n X 0 dX7_solve_92 rfl ?_
              refine v_get X cls7 F_8 (by omega) 6 (by decide) m_264 rfl rfl dX7_solve_93 ?_
              refine v_aload_n X 0 dX7_solve_96 rfl ?_
              refine v_get X cls7 F_8 (by omega) 7 (by decide) m_265 rfl rfl dX7_solve_97 ?_
              have T_31 : TrAt k M_2 25 (build c (decF c d 8)).1 (some q) := by rw [← hq9]; exact P_6
              refine v_callS X hCl hCR (c_X7_learnInto l k M_2 21 25 c (decF c d 8) (build c (decF c d 8)).1 q P_5 T_31 hco hful (by omega)) mo_X7_learnInto m_372 m_376 m_377 m_21 (by decide) rfl rfl (Nat.le_of_ble_eq_true rfl) ⟨rfl, rfl⟩ ⟨by decide, by decide⟩ dX7_solve_100 (vI_in (fun r_35 M_32 hp_33 => ?_))
              obtain ⟨he_36, P_37, hfr_34⟩ := hp_33
              subst he_36
              have F_38 : M_32 0 = .inr (7, [.ref (ad k 1), .ref (ad k 5), .ref (ad k 9), .ref (ad k 13), .ref (ad k 17), .ref (ad k 19), .ref (ad k 21), .ref (ad k 25)]) := by rw [hfr_34 0 (by omega)]; exact F_8
              have F_39 : M_32 25 = .inr (6, [.ref (ad k 26), .ref (ad k 27), .ref (ad k 28), .int (nI (((build c (decF c d 8)).1).length)), .int (nI (tA ((build c (decF c d 8)).1))), .int (nI (tT ((build c (decF c d 8)).1))), .int (nI (tL ((build c (decF c d 8)).1))), .int (nI (tB ((build c (decF c d 8)).1))), .int (oI ((build c (decF c d 8)).2))]) := by rw [hfr_34 25 (by omega)]; exact F0_15
              have F_40 : M_32 26 = .inl (kI k, 8, .inl (fun zq => nI (o_12 zq))) := by rw [hfr_34 26 (by omega)]; exact F1_16
              have F_41 : M_32 27 = .inl (kI k, 8, .inl (fun zq => nI (lv_13 zq))) := by rw [hfr_34 27 (by omega)]; exact F2_17
              have F_42 : M_32 28 = .inl (kI k, 8, .inl (fun zq => oI (rs_14 zq))) := by rw [hfr_34 28 (by omega)]; exact F3_18
              have P_43 : TrAt k M_32 25 (build c (decF c d 8)).1 (some q) := T_31.fr (fun i h1 h2 => hfr_34 i (by omega))
              refine v_pop X rfl dX7_solve_103 ?_
              refine v_aload_n X 0 dX7_solve_104 rfl ?_
              refine v_get X cls7 F_38 (by omega) 7 (by decide) m_265 rfl rfl dX7_solve_105 ?_
              refine v_aload_n X 0 dX7_solve_108 rfl ?_
              refine v_get X cls7 F_38 (by omega) 6 (by decide) m_264 rfl rfl dX7_solve_109 ?_
              refine v_callV X hCl hCR (c_X6_build l k M_32 25 21 (build c (decF c d 8)).1 (some q) (c ++ [falseCl (build c (decF c d 8)).1 (lrnVars c (build c (decF c d 8)).1 q)]) ((decF c d 8).take (bjLev (build c (decF c d 8)).1 (lrnVars c (build c (decF c d 8)).1 q))) P_43 P_37 hc2 hd2 (by omega)) cls6 ⟨_, F_39⟩ (by omega) mo_X6_build m_231 m_286 m_287 m_288 m_204 (by decide) rfl rfl (Nat.le_of_ble_eq_true rfl) ⟨rfl, rfl⟩ ⟨by decide, by decide⟩ dX7_solve_112 (vV_in (fun M_44 hp_45 => ?_))
              obtain ⟨P_47, P_48, hfr_46⟩ := hp_45
              have F_49 : M_44 0 = .inr (7, [.ref (ad k 1), .ref (ad k 5), .ref (ad k 9), .ref (ad k 13), .ref (ad k 17), .ref (ad k 19), .ref (ad k 21), .ref (ad k 25)]) := by rw [hfr_46 0 (by omega) (by omega)]; exact F_38
              refine v_iinc X (v := nI (n + 1)) 1 [(1, .int (nI (n + 1))), (0, .ref (ad k 0))] dX7_solve_115 rfl (nI_1 _) (by decide) rfl ?_
              refine v_goto X 38 dX7_solve_118 (by decide) ?_
              have T_50 : TrAt k M_44 25 (build (c ++ [falseCl (build c (decF c d 8)).1 (lrnVars c (build c (decF c d 8)).1 q)]) (sNew (c ++ [falseCl (build c (decF c d 8)).1 (lrnVars c (build c (decF c d 8)).1 q)]) ((decF c d 8).take (bjLev (build c (decF c d 8)).1 (lrnVars c (build c (decF c d 8)).1 q))))).1 (build (c ++ [falseCl (build c (decF c d 8)).1 (lrnVars c (build c (decF c d 8)).1 q)]) (sNew (c ++ [falseCl (build c (decF c d 8)).1 (lrnVars c (build c (decF c d 8)).1 q)]) ((decF c d 8).take (bjLev (build c (decF c d 8)).1 (lrnVars c (build c (decF c d 8)).1 q))))).2 := by rw [(sNew_spec _ _).1]; exact P_47
              refine v_lv [1, 0] rfl ?_
              exact ih (n + 1) (c ++ [falseCl (build c (decF c d 8)).1 (lrnVars c (build c (decF c d 8)).1 q)]) (sNew (c ++ [falseCl (build c (decF c d 8)).1 (lrnVars c (build c (decF c d 8)).1 q)]) ((decF c d 8).take (bjLev (build c (decF c d 8)).1 (lrnVars c (build c (decF c d 8)).1 q)))) M_44 (by omega) (by omega) hc2 (dOK.new hd2 (by rw [List.length_take]; have := hdo2.2.2; omega)) (by rw [show 25 - (n + 1) = 25 - n - 1 by omega]; exact solve_next hres1 hq9 hz hful) (fun i hi => by rw [hfr_46 i (by omega) (by omega), hfr_34 i (by omega), hfr_4 i (by omega)]; exact hfr i hi) F_49 P_48 T_50
            · have hful := of_decide_eq_true c_30
              refine v_bipush X (v := (-90)) (by decide) dX7_solve_89 ?_
              exact v_iret X rq ⟨by decide, by decide⟩ rfl dX7_solve_91 ⟨_, rfl, (by rw [solve_full hres1 hq9 hz hful]), hSol.cp (fun i hi => by rw [hfr_4 i (by omega)]; exact hfr i (by omega)) P_5 P_6, (fun i hi => by rw [hfr_4 i (by omega)]; exact hfr i (by omega))⟩
          · have hz := c_29
            refine v_iconst X (v := (-1)) (by decide) dX7_solve_72 ?_
            refine v_iload_n X 1 dX7_solve_73 rfl ?_
            refine v_isub X dX7_solve_74 ?_
            exact v_iret X rq ⟨by decide, by decide⟩ rfl dX7_solve_75 ⟨_, rfl, (by rw [solve_zero hres1 hq9 hz]), hSol.cp (fun i hi => by rw [hfr_4 i (by omega)]; exact hfr i (by omega)) P_5 P_6, (fun i hi => by rw [hfr_4 i (by omega)]; exact hfr i (by omega))⟩
        · have hcf : (build c (decF c d 8)).2 = none := (oI_eq (fun n hn => by have := hc_11 n hn; omega)).mp c_21
          refine v_iload_n X 1 dX7_solve_60 rfl ?_
          exact v_iret X rq ⟨by decide, by decide⟩ rfl dX7_solve_61 ⟨_, rfl, (by rw [solve_none hres1 hcf]), hSol.cp (fun i hi => by rw [hfr_4 i (by omega)]; exact hfr i (by omega)) P_5 P_6, (fun i hi => by rw [hfr_4 i (by omega)]; exact hfr i (by omega))⟩
  refine v_aload_n X 0 dX7_solve_0 rfl ?_
  refine v_get X cls7 F0 (by omega) 6 (by decide) m_264 rfl rfl dX7_solve_1 ?_
  obtain ⟨hN_51, hF_52, hl_53, g_54, F0_55, F3_56, hg_57⟩ := id hS2
  refine v_getN X cls5 F0_55 (by omega) 0 (by decide) nw_11 rfl rfl dX7_solve_4 ?_
  refine v_aload_n X 0 dX7_solve_7 rfl ?_
  refine v_get X cls7 F0 (by omega) 1 (by decide) m_251 rfl rfl dX7_solve_8 ?_
  obtain ⟨hN_58, hF_59, hl_60, g_61, F0_62, F3_63, hg_64⟩ := id hS
  refine v_getN X cls5 F0_62 (by omega) 0 (by decide) nw_11 rfl rfl dX7_solve_11 ?_
  refine v_callV X hCl hCR (c_X1_copyFrom l k M 22 6 cs2 cs hF_52 hF_59 (by omega)) cls1 hF_52.obj (by omega) mo_X1_copyFrom m_52 m_290 m_139 m_140 m_15 (by decide) rfl rfl (Nat.le_of_ble_eq_true rfl) ⟨rfl, rfl⟩ ⟨by decide, by decide⟩ dX7_solve_14 (vV_in (fun M_65 hp_66 => ?_))
  obtain ⟨P_68, hfr_67⟩ := hp_66
  have F_69 : M_65 0 = .inr (7, [.ref (ad k 1), .ref (ad k 5), .ref (ad k 9), .ref (ad k 13), .ref (ad k 17), .ref (ad k 19), .ref (ad k 21), .ref (ad k 25)]) := by rw [hfr_67 0 (by omega)]; exact F0
  have F_70 : M_65 21 = .inr (5, [.ref (ad k 22), .ref (ad k 24), .int (nI ds2.length)]) := by rw [hfr_67 21 (by omega)]; exact F0_55
  have F_71 : M_65 24 = .inl (kI k, 8, .inl (fun zq => nI (g_54 zq))) := by rw [hfr_67 24 (by omega)]; exact F3_56
  have F_72 : M_65 5 = .inr (5, [.ref (ad k 6), .ref (ad k 8), .int (nI ds.length)]) := by rw [hfr_67 5 (by omega)]; exact F0_62
  have F_73 : M_65 8 = .inl (kI k, 8, .inl (fun zq => nI (g_61 zq))) := by rw [hfr_67 8 (by omega)]; exact F3_63
  have P_74 : TxAt k M_65 tx := hTx.fr (fun i h1 h2 => hfr_67 i (by omega))
  have P_75 : StAt k M_65 5 cs ds := hS.fr (fun i h1 h2 => hfr_67 i (by omega))
  have P_76 : TrAt k M_65 9 (build cs ds).1 (build cs ds).2 := hT.fr (fun i h1 h2 => hfr_67 i (by omega))
  have P_77 : MeAt k M_65 mem sl := hMe.fr (fun i h1 h2 => hfr_67 i (by omega))
  have P_78 : MoAt k M_65 cs := hMo.fr (fun i h1 h2 => hfr_67 i (by omega))
  have P_79 : ElAt k M_65  := hEl.fr (fun i h1 h2 => hfr_67 i (by omega))
  have P_80 : TrAt k M_65 25 tr2 cf2 := hT2.fr (fun i h1 h2 => hfr_67 i (by omega))
  have P_81 : FmAt k M_65 6 cs := hF_59.fr (fun i h1 h2 => hfr_67 i (by omega))
  refine v_aload_n X 0 dX7_solve_17 rfl ?_
  refine v_get X cls7 F_69 (by omega) 6 (by decide) m_264 rfl rfl dX7_solve_18 ?_
  refine v_iconst X (v := nI 0) (by decide) dX7_solve_21 ?_
  have P_86 : StAt k M_65 21 cs ds2 := ⟨hN_51, P_68, hl_53, _, F_70, F_71, hg_57⟩
  refine v_callV X hCl hCR (c_X5_keepDecisions l k M_65 21 cs ds2 0 P_86 (by omega)) cls5 ⟨_, F_70⟩ (by omega) mo_X5_keepDecisions m_177 m_291 m_229 m_230 m_133 (by decide) rfl rfl (Nat.le_of_ble_eq_true rfl) ⟨rfl, rfl⟩ ⟨by decide, by decide⟩ dX7_solve_22 (vV_in (fun M_82 hp_83 => ?_))
  obtain ⟨P_85, hfr_84⟩ := hp_83
  have F_87 : M_82 0 = .inr (7, [.ref (ad k 1), .ref (ad k 5), .ref (ad k 9), .ref (ad k 13), .ref (ad k 17), .ref (ad k 19), .ref (ad k 21), .ref (ad k 25)]) := by rw [hfr_84 0 (by omega)]; exact F_69
  have F_88 : M_82 5 = .inr (5, [.ref (ad k 6), .ref (ad k 8), .int (nI ds.length)]) := by rw [hfr_84 5 (by omega)]; exact F_72
  have F_89 : M_82 8 = .inl (kI k, 8, .inl (fun zq => nI (g_61 zq))) := by rw [hfr_84 8 (by omega)]; exact F_73
  have P_90 : TxAt k M_82 tx := P_74.fr (fun i h1 h2 => hfr_84 i (by omega))
  have P_91 : StAt k M_82 5 cs ds := P_75.fr (fun i h1 h2 => hfr_84 i (by omega))
  have P_92 : TrAt k M_82 9 (build cs ds).1 (build cs ds).2 := P_76.fr (fun i h1 h2 => hfr_84 i (by omega))
  have P_93 : MeAt k M_82 mem sl := P_77.fr (fun i h1 h2 => hfr_84 i (by omega))
  have P_94 : MoAt k M_82 cs := P_78.fr (fun i h1 h2 => hfr_84 i (by omega))
  have P_95 : ElAt k M_82  := P_79.fr (fun i h1 h2 => hfr_84 i (by omega))
  have P_96 : TrAt k M_82 25 tr2 cf2 := P_80.fr (fun i h1 h2 => hfr_84 i (by omega))
  have P_97 : FmAt k M_82 6 cs := P_81.fr (fun i h1 h2 => hfr_84 i (by omega))
  refine v_aload_n X 0 dX7_solve_25 rfl ?_
  refine v_get X cls7 F_87 (by omega) 7 (by decide) m_265 rfl rfl dX7_solve_26 ?_
  refine v_aload_n X 0 dX7_solve_29 rfl ?_
  refine v_get X cls7 F_87 (by omega) 6 (by decide) m_264 rfl rfl dX7_solve_30 ?_
  refine v_callV X hCl hCR (c_X6_build l k M_82 25 21 tr2 cf2 cs (ds2.take 0) P_96 P_85 ho2 (by intro x hx; simp at hx) (by omega)) cls6 P_96.obj (by omega) mo_X6_build m_231 m_286 m_287 m_288 m_204 (by decide) rfl rfl (Nat.le_of_ble_eq_true rfl) ⟨rfl, rfl⟩ ⟨by decide, by decide⟩ dX7_solve_33 (vV_in (fun M_98 hp_99 => ?_))
  obtain ⟨P_101, P_102, hfr_100⟩ := hp_99
  have F_103 : M_98 0 = .inr (7, [.ref (ad k 1), .ref (ad k 5), .ref (ad k 9), .ref (ad k 13), .ref (ad k 17), .ref (ad k 19), .ref (ad k 21), .ref (ad k 25)]) := by rw [hfr_100 0 (by omega) (by omega)]; exact F_87
  have F_104 : M_98 5 = .inr (5, [.ref (ad k 6), .ref (ad k 8), .int (nI ds.length)]) := by rw [hfr_100 5 (by omega) (by omega)]; exact F_88
  have F_105 : M_98 8 = .inl (kI k, 8, .inl (fun zq => nI (g_61 zq))) := by rw [hfr_100 8 (by omega) (by omega)]; exact F_89
  have P_106 : TxAt k M_98 tx := P_90.fr (fun i h1 h2 => hfr_100 i (by omega) (by omega))
  have P_107 : StAt k M_98 5 cs ds := P_91.fr (fun i h1 h2 => hfr_100 i (by omega) (by omega))
  have P_108 : TrAt k M_98 9 (build cs ds).1 (build cs ds).2 := P_92.fr (fun i h1 h2 => hfr_100 i (by omega) (by omega))
  have P_109 : MeAt k M_98 mem sl := P_93.fr (fun i h1 h2 => hfr_100 i (by omega) (by omega))
  have P_110 : MoAt k M_98 cs := P_94.fr (fun i h1 h2 => hfr_100 i (by omega) (by omega))
  have P_111 : ElAt k M_98  := P_95.fr (fun i h1 h2 => hfr_100 i (by omega) (by omega))
  have P_112 : FmAt k M_98 6 cs := P_97.fr (fun i h1 h2 => hfr_100 i (by omega) (by omega))
  refine v_iconst X (v := nI 0) (by decide) dX7_solve_36 ?_
  refine v_istore_n X [(1, .int (nI 0)), (0, .ref (ad k 0))] dX7_solve_37 (by decide) rfl ?_
  have T_113 : TrAt k M_98 25 (build cs (sNew cs [])).1 (build cs (sNew cs [])).2 := by rw [(sNew_spec _ _).1]; exact P_101
  refine v_lv [1, 0] rfl ?_
  exact L 26 0 cs (sNew cs []) M_98 (by omega) (by omega) ho2 (dOK.new (by intro x hx; cases hx) (by decide)) rfl (fun i hi => by rw [hfr_100 i (by omega) (by omega), hfr_84 i (by omega), hfr_67 i (by omega)]) F_103 P_102 T_113
