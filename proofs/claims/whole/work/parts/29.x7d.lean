set_option maxHeartbeats 4000000 in
set_option maxRecDepth 100000 in
theorem c_X7_append (l : Launch) (hst0 : l.stackTraces = false) (k : KX) (M : Mem) (cs ds : List Nat) (mem : List SD) (sl : Nat → Option SD) (tx : List Nat) (c : Int32) (hSol : SolAt k M cs ds mem sl tx) : CX l yX7_append cX7_append 2 ((some .int)) { frames := 6, cells := 1, slots := 6, locals := 90 } k [.ref (ad k 0), .int c] M (pI (fun r M' => (∃ n, n < 256 ∧ c = nI n ∧ tx.length < 90 ∧ r = nI (tx.length + 1) ∧ SolAt k M' cs ds mem sl (tx ++ [n])) ∧ Fr 0 93 M M')) (fun E M' => ((E = xIAE ∧ inR c 255 = false) ∨ (E = xISE ∧ inR c 255 = true ∧ 90 ≤ tx.length)) ∧ SolAt k M' cs ds mem sl tx ∧ Fr 0 93 M M') := by
  refine CX.of (by decide) (Nat.le_of_ble_eq_true rfl) (fun C X hCl hCR rx => ?_)
  have rq := rx.q
  have hst : (C_l C).stackTraces = false := by rw [hCl]; exact hst0
  show V C k 2 (0, 0) M 0 [(0, .ref (ad k 0)), (1, .int c)] []
  obtain ⟨hN, F0, hTx, hS, hT, hMe, hMo, hEl, ⟨cs2, ds2, hS2⟩, ⟨tr2, cf2, hT2⟩, hV⟩ := id hSol
  have ho2 : csOK cs := hV.1.1
  have hds : ∀ d ∈ ds, d < 16 := hV.1.2.1
  have hlc : cs.length ≤ 24 := ho2.1
  have hld : ds.length ≤ 8 := hV.1.2.2
  have hok := cAt_ok ho2
  have hTL := hV.2.1
  have hx9 := hTx.1
  refine v_iload_n X 1 dX7_append_0 rfl ?_
  refine v_if_lt X 11 dX7_append_1 (by decide) (fun c_1 => ?_) (fun c_1 => ?_)
  · exact v_throwS X rx hCR hst rfl (Or.inl rfl) m_274 m_275 (List.mem_of_getElem? (i := 0) rfl) inE0 bad61 ot61 dX7_append_11 dX7_append_14 dX7_append_15 dX7_append_17 dX7_append_20 (by decide) (Nat.le_of_ble_eq_true rfl) (by decide) (by decide) ⟨Or.inl ⟨rfl, by simp only [inR]; simp_all [nI_0', Int32.not_lt]⟩, hSol, Fr.rf⟩
  · refine v_iload_n X 1 dX7_append_4 rfl ?_
    refine v_sipush X (v := nI 255) (by decide) dX7_append_5 ?_
    refine v_icmp_le X 21 dX7_append_8 (by decide) (fun c_2 => ?_) (fun c_2 => ?_)
    · have hq : inR c 255 = true := by simp_all [inR, nI_0', Int32.not_lt]
      obtain ⟨n, hn, rfl⟩ := inR_of (by decide) hq
      refine v_aload_n X 0 dX7_append_21 rfl ?_
      refine v_get X cls7 F0 (by omega) 0 (by decide) m_249 rfl rfl dX7_append_22 ?_
      obtain ⟨h9_3, hch_4, s_5, f_6, ⟨hN_7, F1_8, hF_9⟩, F2_10, hf_11⟩ := id hTx
      refine v_getN X cls2 F1_8 (by omega) 1 (by decide) nw_32 rfl rfl dX7_append_25 ?_
      refine v_bipush X (v := nI 90) (by decide) dX7_append_28 ?_
      refine v_cltN X 43 (by omega) (by omega) dX7_append_30 (by decide) (fun c_12 => ?_) (fun c_12 => ?_)
      · refine v_aload_n X 0 dX7_append_43 rfl ?_
        refine v_get X cls7 F0 (by omega) 0 (by decide) m_249 rfl rfl dX7_append_44 ?_
        refine v_iload_n X 1 dX7_append_47 rfl ?_
        refine v_callV X hCl hCR (c_X2_put l k M tx n hTx (by omega) (by omega)) cls2 ⟨_, F1_8⟩ (by omega) mo_X2_put m_77 m_278 m_279 m_280 m_83 (by decide) rfl rfl (Nat.le_of_ble_eq_true rfl) ⟨rfl, rfl⟩ ⟨by decide, by decide⟩ dX7_append_48 (vV_in (fun M_13 hp_14 => ?_))
        obtain ⟨P_16, hfr_15⟩ := hp_14
        have F_17 : M_13 0 = .inr (7, [.ref (ad k 1), .ref (ad k 5), .ref (ad k 9), .ref (ad k 13), .ref (ad k 17), .ref (ad k 19), .ref (ad k 21), .ref (ad k 25)]) := by rw [hfr_15 0 (by omega)]; exact F0
        have P_18 : StAt k M_13 5 cs ds := hS.fr (fun i h1 h2 => hfr_15 i (by omega))
        have P_19 : TrAt k M_13 9 (build cs ds).1 (build cs ds).2 := hT.fr (fun i h1 h2 => hfr_15 i (by omega))
        have P_20 : MeAt k M_13 mem sl := hMe.fr (fun i h1 h2 => hfr_15 i (by omega))
        have P_21 : MoAt k M_13 cs := hMo.fr (fun i h1 h2 => hfr_15 i (by omega))
        have P_22 : ElAt k M_13  := hEl.fr (fun i h1 h2 => hfr_15 i (by omega))
        have P_23 : StAt k M_13 21 cs2 ds2 := hS2.fr (fun i h1 h2 => hfr_15 i (by omega))
        have P_24 : TrAt k M_13 25 tr2 cf2 := hT2.fr (fun i h1 h2 => hfr_15 i (by omega))
        refine v_aload_n X 0 dX7_append_51 rfl ?_
        refine v_get X cls7 F_17 (by omega) 0 (by decide) m_249 rfl rfl dX7_append_52 ?_
        obtain ⟨h9_25, hch_26, s_27, f_28, ⟨hN_29, F1_30, hF_31⟩, F2_32, hf_33⟩ := id P_16
        refine v_getN X cls2 F1_30 (by omega) 1 (by decide) nw_32 rfl rfl dX7_append_55 ?_
        exact v_iret X rq ⟨by decide, by decide⟩ rfl dX7_append_58 ⟨_, rfl, ⟨n, by omega, rfl, by omega, by simp, ⟨hN, F_17, P_16, P_18, P_19, P_20, P_21, P_22, ⟨_, _, P_23⟩, ⟨_, _, P_24⟩, hV⟩⟩, (fun i hi => by rw [hfr_15 i (by omega)])⟩
      · exact v_throwS X rx hCR hst rfl (Or.inr (Or.inl rfl)) m_276 m_277 (List.mem_of_getElem? (i := 1) rfl) inE1 bad72 ot72 dX7_append_33 dX7_append_36 dX7_append_37 dX7_append_39 dX7_append_42 (by decide) (Nat.le_of_ble_eq_true rfl) (by decide) (by decide) ⟨Or.inr ⟨rfl, hq, by omega⟩, hSol, Fr.rf⟩
    · exact v_throwS X rx hCR hst rfl (Or.inl rfl) m_274 m_275 (List.mem_of_getElem? (i := 0) rfl) inE0 bad61 ot61 dX7_append_11 dX7_append_14 dX7_append_15 dX7_append_17 dX7_append_20 (by decide) (Nat.le_of_ble_eq_true rfl) (by decide) (by decide) ⟨Or.inl ⟨rfl, by simp only [inR]; simp_all [nI_0', Int32.not_lt]⟩, hSol, Fr.rf⟩
set_option maxHeartbeats 4000000 in
set_option maxRecDepth 100000 in
theorem c_X7_errorPosition (l : Launch) (k : KX) (M : Mem) (cs ds : List Nat) (mem : List SD) (sl : Nat → Option SD) (tx : List Nat) (hSol : SolAt k M cs ds mem sl tx) : CM l yX7_errorPosition cX7_errorPosition 1 ((some .int)) { frames := 6, cells := 0, slots := 0, locals := 129 } k [.ref (ad k 0)] M (pI (fun r M' => (r = oI (rdText tx).1) ∧ SolAt k M' cs ds mem sl tx ∧ Fr 0 93 M M')) := by
  refine CM.of (by decide) (Nat.le_of_ble_eq_true rfl) (fun C X hCl hCR rq => ?_)
  show V C k 1 (0, 0) M 0 [(0, .ref (ad k 0))] []
  obtain ⟨hN, F0, hTx, hS, hT, hMe, hMo, hEl, ⟨cs2, ds2, hS2⟩, ⟨tr2, cf2, hT2⟩, hV⟩ := id hSol
  have ho2 : csOK cs := hV.1.1
  have hds : ∀ d ∈ ds, d < 16 := hV.1.2.1
  have hlc : cs.length ≤ 24 := ho2.1
  have hld : ds.length ≤ 8 := hV.1.2.2
  have hok := cAt_ok ho2
  have hTL := hV.2.1
  refine v_aload_n X 0 dX7_errorPosition_0 rfl ?_
  refine v_get X cls7 F0 (by omega) 0 (by decide) m_249 rfl rfl dX7_errorPosition_1 ?_
  refine v_callV X hCl hCR (c_X2_read l k M tx hTx) cls2 hTx.obj (by omega) mo_X2_read m_118 m_282 m_283 m_284 m_83 (by decide) rfl rfl (Nat.le_of_ble_eq_true rfl) ⟨rfl, rfl⟩ ⟨by decide, by decide⟩ dX7_errorPosition_4 (vI_in (fun r_4 M_1 hp_2 => ?_))
  obtain ⟨he_5, T_6, hfr_3⟩ := hp_2
  subst he_5
  have hTR := T_6
  have hTx2 := T_6.at
  have F_7 : M_1 0 = .inr (7, [.ref (ad k 1), .ref (ad k 5), .ref (ad k 9), .ref (ad k 13), .ref (ad k 17), .ref (ad k 19), .ref (ad k 21), .ref (ad k 25)]) := by rw [hfr_3 0 (by omega) (by omega) (by omega)]; exact F0
  have P_8 : StAt k M_1 5 cs ds := hS.fr (fun i h1 h2 => hfr_3 i (by omega) (by omega) (by omega))
  have P_9 : TrAt k M_1 9 (build cs ds).1 (build cs ds).2 := hT.fr (fun i h1 h2 => hfr_3 i (by omega) (by omega) (by omega))
  have P_10 : MeAt k M_1 mem sl := hMe.fr (fun i h1 h2 => hfr_3 i (by omega) (by omega) (by omega))
  have P_11 : MoAt k M_1 cs := hMo.fr (fun i h1 h2 => hfr_3 i (by omega) (by omega) (by omega))
  have P_12 : ElAt k M_1  := hEl.fr (fun i h1 h2 => hfr_3 i (by omega) (by omega) (by omega))
  have P_13 : StAt k M_1 21 cs2 ds2 := hS2.fr (fun i h1 h2 => hfr_3 i (by omega) (by omega) (by omega))
  have P_14 : TrAt k M_1 25 tr2 cf2 := hT2.fr (fun i h1 h2 => hfr_3 i (by omega) (by omega) (by omega))
  exact v_iret X rq ⟨by decide, by decide⟩ rfl dX7_errorPosition_7 ⟨_, rfl, rfl, ⟨hN, F_7, hTx2, P_8, P_9, P_10, P_11, P_12, ⟨_, _, P_13⟩, ⟨_, _, P_14⟩, hV⟩, (fun i hi => by rw [hfr_3 i (by omega) (by omega) (by omega)])⟩
theorem txRun_le {tx : List Nat} : ∀ (n i : Nat) (s : TS) {j : Nat}, (txRun tx n i s).1 = some j → j ≤ i + n
  | 0, i, s, j, h => by
    unfold txRun at h
    simp only [] at h
    split at h
    · cases h
    · cases h; exact Nat.le_refl _
  | n + 1, i, s, j, h => by
    unfold txRun at h
    split at h
    · have := txRun_le n (i + 1) _ h; omega
    · cases h; omega
theorem rd_le {tx : List Nat} {j : Nat} (h : (rdText tx).1 = some j) : j ≤ tx.length := by
  have := txRun_le tx.length 0 _ h; omega
set_option maxHeartbeats 4000000 in
set_option maxRecDepth 100000 in
theorem c_X7_load (l : Launch) (hst0 : l.stackTraces = false) (k : KX) (M : Mem) (cs ds : List Nat) (mem : List SD) (sl : Nat → Option SD) (tx : List Nat) (hSol : SolAt k M cs ds mem sl tx) : CX l yX7_load cX7_load 1 ((some .int)) { frames := 6, cells := 1, slots := 6, locals := 135 } k [.ref (ad k 0)] M (pI (fun r M' => ((rdText tx).1 = none ∧ r = nI (rdText tx).2.1.length ∧ SolAt k M' ((rdText tx).2.1) ([]) ([]) (fun _ => none) tx) ∧ Fr 0 93 M M')) (fun E M' => (E = xISE ∧ (rdText tx).1 ≠ none) ∧ SolAt k M' cs ds mem sl tx ∧ Fr 0 93 M M') := by
  refine CX.of (by decide) (Nat.le_of_ble_eq_true rfl) (fun C X hCl hCR rx => ?_)
  have rq := rx.q
  have hst : (C_l C).stackTraces = false := by rw [hCl]; exact hst0
  show V C k 1 (0, 0) M 0 [(0, .ref (ad k 0))] []
  obtain ⟨hN, F0, hTx, hS, hT, hMe, hMo, hEl, ⟨cs2, ds2, hS2⟩, ⟨tr2, cf2, hT2⟩, hV⟩ := id hSol
  have ho2 : csOK cs := hV.1.1
  have hds : ∀ d ∈ ds, d < 16 := hV.1.2.1
  have hlc : cs.length ≤ 24 := ho2.1
  have hld : ds.length ≤ 8 := hV.1.2.2
  have hok := cAt_ok ho2
  have hTL := hV.2.1
  refine v_aload_n X 0 dX7_load_0 rfl ?_
  refine v_get X cls7 F0 (by omega) 0 (by decide) m_249 rfl rfl dX7_load_1 ?_
  refine v_callV X hCl hCR (c_X2_read l k M tx hTx) cls2 hTx.obj (by omega) mo_X2_read m_118 m_282 m_283 m_284 m_83 (by decide) rfl rfl (Nat.le_of_ble_eq_true rfl) ⟨rfl, rfl⟩ ⟨by decide, by decide⟩ dX7_load_4 (vI_in (fun r_4 M_1 hp_2 => ?_))
  obtain ⟨he_5, T_6, hfr_3⟩ := hp_2
  subst he_5
  have hTR := T_6
  have hTx2 := T_6.at
  have F_7 : M_1 0 = .inr (7, [.ref (ad k 1), .ref (ad k 5), .ref (ad k 9), .ref (ad k 13), .ref (ad k 17), .ref (ad k 19), .ref (ad k 21), .ref (ad k 25)]) := by rw [hfr_3 0 (by omega) (by omega) (by omega)]; exact F0
  have P_8 : StAt k M_1 5 cs ds := hS.fr (fun i h1 h2 => hfr_3 i (by omega) (by omega) (by omega))
  have P_9 : TrAt k M_1 9 (build cs ds).1 (build cs ds).2 := hT.fr (fun i h1 h2 => hfr_3 i (by omega) (by omega) (by omega))
  have P_10 : MeAt k M_1 mem sl := hMe.fr (fun i h1 h2 => hfr_3 i (by omega) (by omega) (by omega))
  have P_11 : MoAt k M_1 cs := hMo.fr (fun i h1 h2 => hfr_3 i (by omega) (by omega) (by omega))
  have P_12 : ElAt k M_1  := hEl.fr (fun i h1 h2 => hfr_3 i (by omega) (by omega) (by omega))
  have P_13 : StAt k M_1 21 cs2 ds2 := hS2.fr (fun i h1 h2 => hfr_3 i (by omega) (by omega) (by omega))
  have P_14 : TrAt k M_1 25 tr2 cf2 := hT2.fr (fun i h1 h2 => hfr_3 i (by omega) (by omega) (by omega))
  refine v_bipush X (v := (-9)) (by decide) dX7_load_7 ?_
  refine v_icmp_eq X 22 dX7_load_9 (by decide) (fun c_15 => ?_) (fun c_15 => ?_)
  · have hrd : (rdText tx).1 = none := (oI_eq (fun n hn => by have := rd_le hn; have := hTx.1; omega)).mp c_15
    obtain ⟨⟨hN5, G1, hG3⟩, h90, hch, f2, G2, hf2⟩ := id hTR
    have hco := rdText_ok hch
    refine v_aload_n X 0 dX7_load_22 rfl ?_
    refine v_get X cls7 F_7 (by omega) 1 (by decide) m_251 rfl rfl dX7_load_23 ?_
    obtain ⟨hN_16, hF_17, hl_18, g_19, F0_20, F3_21, hg_22⟩ := id P_8
    refine v_getN X cls5 F0_20 (by omega) 0 (by decide) nw_35 rfl rfl dX7_load_26 ?_
    refine v_aload_n X 0 dX7_load_29 rfl ?_
    refine v_get X cls7 F_7 (by omega) 0 (by decide) m_249 rfl rfl dX7_load_30 ?_
    refine v_getN X cls2 G1 (by omega) 2 (by decide) nw_33 rfl rfl dX7_load_33 ?_
    refine v_callV X hCl hCR (c_X1_copyFrom l k M_1 6 3 cs ((rdText tx).2.1) hF_17 hG3 (by omega)) cls1 hF_17.obj (by omega) mo_X1_copyFrom m_52 m_290 m_139 m_140 m_15 (by decide) rfl rfl (Nat.le_of_ble_eq_true rfl) ⟨rfl, rfl⟩ ⟨by decide, by decide⟩ dX7_load_36 (vV_in (fun M_23 hp_24 => ?_))
    obtain ⟨P_26, hfr_25⟩ := hp_24
    have F_27 : M_23 0 = .inr (7, [.ref (ad k 1), .ref (ad k 5), .ref (ad k 9), .ref (ad k 13), .ref (ad k 17), .ref (ad k 19), .ref (ad k 21), .ref (ad k 25)]) := by rw [hfr_25 0 (by omega)]; exact F_7
    have F_28 : M_23 1 = .inr (2, [.ref (ad k 2), .int (nI tx.length), .ref (ad k 3), .int (nI ((rdText tx).2.2.1)), .int (nI ((rdText tx).2.2.2.1)), .int (nI ((rdText tx).2.2.2.2))]) := by rw [hfr_25 1 (by omega)]; exact G1
    have F_29 : M_23 2 = .inl (kI k, 90, .inl (fun zq => nI (f2 zq))) := by rw [hfr_25 2 (by omega)]; exact G2
    have F_30 : M_23 5 = .inr (5, [.ref (ad k 6), .ref (ad k 8), .int (nI ds.length)]) := by rw [hfr_25 5 (by omega)]; exact F0_20
    have F_31 : M_23 8 = .inl (kI k, 8, .inl (fun zq => nI (g_19 zq))) := by rw [hfr_25 8 (by omega)]; exact F3_21
    have P_32 : TrAt k M_23 9 (build cs ds).1 (build cs ds).2 := P_9.fr (fun i h1 h2 => hfr_25 i (by omega))
    have P_33 : MeAt k M_23 mem sl := P_10.fr (fun i h1 h2 => hfr_25 i (by omega))
    have P_34 : MoAt k M_23 cs := P_11.fr (fun i h1 h2 => hfr_25 i (by omega))
    have P_35 : ElAt k M_23  := P_12.fr (fun i h1 h2 => hfr_25 i (by omega))
    have P_36 : StAt k M_23 21 cs2 ds2 := P_13.fr (fun i h1 h2 => hfr_25 i (by omega))
    have P_37 : TrAt k M_23 25 tr2 cf2 := P_14.fr (fun i h1 h2 => hfr_25 i (by omega))
    have P_38 : TxAt k M_23 tx := hTx2.fr (fun i h1 h2 => hfr_25 i (by omega))
    have P_39 : FmAt k M_23 3 (rdText tx).2.1 := hG3.fr (fun i h1 h2 => hfr_25 i (by omega))
    refine v_aload_n X 0 dX7_load_39 rfl ?_
    refine v_get X cls7 F_27 (by omega) 1 (by decide) m_251 rfl rfl dX7_load_40 ?_
    refine v_iconst X (v := nI 0) (by decide) dX7_load_43 ?_
    have P_44 : StAt k M_23 5 (rdText tx).2.1 ds := ⟨hN_16, P_26, hl_18, _, F_30, F_31, hg_22⟩
    refine v_callV X hCl hCR (c_X5_keepDecisions l k M_23 5 (rdText tx).2.1 ds 0 P_44 (by omega)) cls5 ⟨_, F_30⟩ (by omega) mo_X5_keepDecisions m_177 m_291 m_229 m_230 m_133 (by decide) rfl rfl (Nat.le_of_ble_eq_true rfl) ⟨rfl, rfl⟩ ⟨by decide, by decide⟩ dX7_load_44 (vV_in (fun M_40 hp_41 => ?_))
    obtain ⟨P_43, hfr_42⟩ := hp_41
    have F_45 : M_40 0 = .inr (7, [.ref (ad k 1), .ref (ad k 5), .ref (ad k 9), .ref (ad k 13), .ref (ad k 17), .ref (ad k 19), .ref (ad k 21), .ref (ad k 25)]) := by rw [hfr_42 0 (by omega)]; exact F_27
    have F_46 : M_40 1 = .inr (2, [.ref (ad k 2), .int (nI tx.length), .ref (ad k 3), .int (nI ((rdText tx).2.2.1)), .int (nI ((rdText tx).2.2.2.1)), .int (nI ((rdText tx).2.2.2.2))]) := by rw [hfr_42 1 (by omega)]; exact F_28
    have F_47 : M_40 2 = .inl (kI k, 90, .inl (fun zq => nI (f2 zq))) := by rw [hfr_42 2 (by omega)]; exact F_29
    have P_48 : TrAt k M_40 9 (build cs ds).1 (build cs ds).2 := P_32.fr (fun i h1 h2 => hfr_42 i (by omega))
    have P_49 : MeAt k M_40 mem sl := P_33.fr (fun i h1 h2 => hfr_42 i (by omega))
    have P_50 : MoAt k M_40 cs := P_34.fr (fun i h1 h2 => hfr_42 i (by omega))
    have P_51 : ElAt k M_40  := P_35.fr (fun i h1 h2 => hfr_42 i (by omega))
    have P_52 : StAt k M_40 21 cs2 ds2 := P_36.fr (fun i h1 h2 => hfr_42 i (by omega))
    have P_53 : TrAt k M_40 25 tr2 cf2 := P_37.fr (fun i h1 h2 => hfr_42 i (by omega))
    have P_54 : TxAt k M_40 tx := P_38.fr (fun i h1 h2 => hfr_42 i (by omega))
    have P_55 : FmAt k M_40 3 (rdText tx).2.1 := P_39.fr (fun i h1 h2 => hfr_42 i (by omega))
    refine v_aload_n X 0 dX7_load_47 rfl ?_
    refine v_get X cls7 F_45 (by omega) 3 (by decide) m_257 rfl rfl dX7_load_48 ?_
    refine v_callV X hCl hCR (c_X3_forgetAll l k M_40 mem sl P_49) cls3 P_49.obj (by omega) mo_X3_forgetAll m_153 m_292 m_293 m_294 m_148 (by decide) rfl rfl (Nat.le_of_ble_eq_true rfl) ⟨rfl, rfl⟩ ⟨by decide, by decide⟩ dX7_load_51 (vV_in (fun M_56 hp_57 => ?_))
    obtain ⟨P_59, hfr_58⟩ := hp_57
    have F_60 : M_56 0 = .inr (7, [.ref (ad k 1), .ref (ad k 5), .ref (ad k 9), .ref (ad k 13), .ref (ad k 17), .ref (ad k 19), .ref (ad k 21), .ref (ad k 25)]) := by rw [hfr_58 0 (by omega)]; exact F_45
    have F_61 : M_56 1 = .inr (2, [.ref (ad k 2), .int (nI tx.length), .ref (ad k 3), .int (nI ((rdText tx).2.2.1)), .int (nI ((rdText tx).2.2.2.1)), .int (nI ((rdText tx).2.2.2.2))]) := by rw [hfr_58 1 (by omega)]; exact F_46
    have F_62 : M_56 2 = .inl (kI k, 90, .inl (fun zq => nI (f2 zq))) := by rw [hfr_58 2 (by omega)]; exact F_47
    have P_63 : TrAt k M_56 9 (build cs ds).1 (build cs ds).2 := P_48.fr (fun i h1 h2 => hfr_58 i (by omega))
    have P_64 : MoAt k M_56 cs := P_50.fr (fun i h1 h2 => hfr_58 i (by omega))
    have P_65 : ElAt k M_56  := P_51.fr (fun i h1 h2 => hfr_58 i (by omega))
    have P_66 : StAt k M_56 21 cs2 ds2 := P_52.fr (fun i h1 h2 => hfr_58 i (by omega))
    have P_67 : TrAt k M_56 25 tr2 cf2 := P_53.fr (fun i h1 h2 => hfr_58 i (by omega))
    have P_68 : TxAt k M_56 tx := P_54.fr (fun i h1 h2 => hfr_58 i (by omega))
    have P_69 : FmAt k M_56 3 (rdText tx).2.1 := P_55.fr (fun i h1 h2 => hfr_58 i (by omega))
    have P_70 : StAt k M_56 5 (rdText tx).2.1 (ds.take 0) := P_43.fr (fun i h1 h2 => hfr_58 i (by omega))
    refine v_aload_n X 0 dX7_load_54 rfl ?_
    refine v_get X cls7 F_60 (by omega) 3 (by decide) m_257 rfl rfl dX7_load_55 ?_
    refine v_callV X hCl hCR (c_X3_emptySlots l k M_56 [] sl P_59) cls3 P_59.obj (by omega) mo_X3_emptySlots m_160 m_295 m_296 m_297 m_148 (by decide) rfl rfl (Nat.le_of_ble_eq_true rfl) ⟨rfl, rfl⟩ ⟨by decide, by decide⟩ dX7_load_58 (vV_in (fun M_71 hp_72 => ?_))
    obtain ⟨P_74, hfr_73⟩ := hp_72
    have F_75 : M_71 0 = .inr (7, [.ref (ad k 1), .ref (ad k 5), .ref (ad k 9), .ref (ad k 13), .ref (ad k 17), .ref (ad k 19), .ref (ad k 21), .ref (ad k 25)]) := by rw [hfr_73 0 (by omega)]; exact F_60
    have F_76 : M_71 1 = .inr (2, [.ref (ad k 2), .int (nI tx.length), .ref (ad k 3), .int (nI ((rdText tx).2.2.1)), .int (nI ((rdText tx).2.2.2.1)), .int (nI ((rdText tx).2.2.2.2))]) := by rw [hfr_73 1 (by omega)]; exact F_61
    have F_77 : M_71 2 = .inl (kI k, 90, .inl (fun zq => nI (f2 zq))) := by rw [hfr_73 2 (by omega)]; exact F_62
    have P_78 : TrAt k M_71 9 (build cs ds).1 (build cs ds).2 := P_63.fr (fun i h1 h2 => hfr_73 i (by omega))
    have P_79 : MoAt k M_71 cs := P_64.fr (fun i h1 h2 => hfr_73 i (by omega))
    have P_80 : ElAt k M_71  := P_65.fr (fun i h1 h2 => hfr_73 i (by omega))
    have P_81 : StAt k M_71 21 cs2 ds2 := P_66.fr (fun i h1 h2 => hfr_73 i (by omega))
    have P_82 : TrAt k M_71 25 tr2 cf2 := P_67.fr (fun i h1 h2 => hfr_73 i (by omega))
    have P_83 : TxAt k M_71 tx := P_68.fr (fun i h1 h2 => hfr_73 i (by omega))
    have P_84 : FmAt k M_71 3 (rdText tx).2.1 := P_69.fr (fun i h1 h2 => hfr_73 i (by omega))
    have P_85 : StAt k M_71 5 (rdText tx).2.1 (ds.take 0) := P_70.fr (fun i h1 h2 => hfr_73 i (by omega))
    refine v_aload_n X 0 dX7_load_61 rfl ?_
    refine v_callV X hCl hCR (c_X7_rebuild l k M_71 (rdText tx).2.1 (ds.take 0) cs (build cs ds).1 (build cs ds).2 hN F_75 P_85 P_78 P_79 hco (by intro d hd; simp at hd)) cls7 ⟨_, F_75⟩ (by omega) mo_X7_rebuild m_289 m_298 m_299 m_300 m_21 (by decide) rfl rfl (Nat.le_of_ble_eq_true rfl) ⟨rfl, rfl⟩ ⟨by decide, by decide⟩ dX7_load_62 (vV_in (fun M_86 hp_87 => ?_))
    obtain ⟨P_89, P_90, P_91, hfr_88⟩ := hp_87
    have F_92 : M_86 0 = .inr (7, [.ref (ad k 1), .ref (ad k 5), .ref (ad k 9), .ref (ad k 13), .ref (ad k 17), .ref (ad k 19), .ref (ad k 21), .ref (ad k 25)]) := by rw [hfr_88 0 (by omega) (by omega)]; exact F_75
    have F_93 : M_86 1 = .inr (2, [.ref (ad k 2), .int (nI tx.length), .ref (ad k 3), .int (nI ((rdText tx).2.2.1)), .int (nI ((rdText tx).2.2.2.1)), .int (nI ((rdText tx).2.2.2.2))]) := by rw [hfr_88 1 (by omega) (by omega)]; exact F_76
    have F_94 : M_86 2 = .inl (kI k, 90, .inl (fun zq => nI (f2 zq))) := by rw [hfr_88 2 (by omega) (by omega)]; exact F_77
    have P_95 : ElAt k M_86  := P_80.fr (fun i h1 h2 => hfr_88 i (by omega) (by omega))
    have P_96 : StAt k M_86 21 cs2 ds2 := P_81.fr (fun i h1 h2 => hfr_88 i (by omega) (by omega))
    have P_97 : TrAt k M_86 25 tr2 cf2 := P_82.fr (fun i h1 h2 => hfr_88 i (by omega) (by omega))
    have P_98 : TxAt k M_86 tx := P_83.fr (fun i h1 h2 => hfr_88 i (by omega) (by omega))
    have P_99 : FmAt k M_86 3 (rdText tx).2.1 := P_84.fr (fun i h1 h2 => hfr_88 i (by omega) (by omega))
    have P_100 : MeAt k M_86 [] (fun _ => none) := P_74.fr (fun i h1 h2 => hfr_88 i (by omega) (by omega))
    refine v_aload_n X 0 dX7_load_65 rfl ?_
    refine v_get X cls7 F_92 (by omega) 1 (by decide) m_251 rfl rfl dX7_load_66 ?_
    obtain ⟨hN_101, hF_102, hl_103, g_104, F0_105, F3_106, hg_107⟩ := id P_89
    refine v_getN X cls5 F0_105 (by omega) 0 (by decide) nw_35 rfl rfl dX7_load_69 ?_
    obtain ⟨hN_109, hl_110, f_108, F_111, F_112, hf_113⟩ := id hF_102
    refine v_getN X cls1 F_111 (by omega) 1 (by decide) nw_31 rfl rfl dX7_load_72 ?_
    exact v_iret X rq ⟨by decide, by decide⟩ rfl dX7_load_75 ⟨_, rfl, ⟨hrd, rfl, (by have e : sNew (rdText tx).2.1 (ds.take 0) = [] := (by simp [sNew]); have W := (show SolAt k M_86 (rdText tx).2.1 (sNew (rdText tx).2.1 (ds.take 0)) [] (fun _ => none) tx from ⟨hN, F_92, P_98, P_89, (by rw [(sNew_spec _ _).1]; exact P_90), P_100, P_91, P_95, ⟨_, _, P_96⟩, ⟨_, _, P_97⟩, hV.new hco (by intro d hd; simp at hd) (by simp) (fun y hy => by cases hy) (fun j s h => by cases h)⟩); rw [e] at W; exact W)⟩, (fun i hi => by rw [hfr_88 i (by omega) (by omega), hfr_73 i (by omega), hfr_58 i (by omega), hfr_42 i (by omega), hfr_25 i (by omega), hfr_3 i (by omega) (by omega) (by omega)])⟩
  · have hrd : (rdText tx).1 ≠ none := fun w => c_15 (by rw [w]; rfl)
    exact v_throwS X rx hCR hst rfl (Or.inr (Or.inl rfl)) m_276 m_277 (List.mem_of_getElem? (i := 2) rfl) inE1 bad72 ot72 dX7_load_12 dX7_load_15 dX7_load_16 dX7_load_18 dX7_load_21 (by decide) (Nat.le_of_ble_eq_true rfl) (by decide) (by decide) ⟨⟨rfl, hrd⟩, ⟨hN, F_7, hTx2, P_8, P_9, P_10, P_11, P_12, ⟨_, _, P_13⟩, ⟨_, _, P_14⟩, hV⟩, (fun i hi => by rw [hfr_3 i (by omega) (by omega) (by omega)])⟩
set_option maxHeartbeats 4000000 in
set_option maxRecDepth 100000 in
theorem c_X7_learnInto (l : Launch) (k : KX) (M : Mem) (b bt : Nat) (cs ds : List Nat) (tr : List Ent) (q : Nat) (hS : StAt k M b cs ds) (hT : TrAt k M bt tr (some q)) (ho2 : csOK cs) (hl : cs.length < 24) (hap : b + 4 ≤ bt ∨ bt + 4 ≤ b) : CM l yX7_learnInto cX7_learnInto 4 ((some .int)) { frames := 4, cells := 0, slots := 0, locals := 89 } k [.ref (ad k b), .ref (ad k bt)] M (pI (fun r M' => r = nI (bjLev tr (lrnVars cs tr q)) ∧ StAt k M' b (cs ++ [falseCl tr (lrnVars cs tr q)]) (ds.take (bjLev tr (lrnVars cs tr q))) ∧ Fr b 4 M M')) := by
  refine CM.of (by decide) (Nat.le_of_ble_eq_true rfl) (fun C X hCl hCR rq => ?_)
  show V C k 4 (0, 0) M 0 [(0, .ref (ad k b)), (1, .ref (ad k bt))] []
  have hL := lrn_lt (cs := cs) (tr := tr) (c := q)
  have hbj := bj_le hT.2.1 (p := fun v => (lrnVars cs tr q &&& tB tr).testBit v) 8
  have hbj2 : bjLev tr (lrnVars cs tr q) ≤ 8 := hbj
  have hNb := hS.1
  have hNt := hT.1
  refine v_aload_n X 1 dX7_learnInto_0 rfl ?_
  refine v_aload_n X 0 dX7_learnInto_1 rfl ?_
  obtain ⟨hN_1, hF_2, hl_3, g_4, F0_5, F3_6, hg_7⟩ := id hS
  refine v_getN X cls5 F0_5 (by omega) 0 (by decide) nw_35 rfl rfl dX7_learnInto_2 ?_
  refine v_callV X hCl hCR (c_X6_learnedVariables l k M bt tr q (b + 1) cs hT hF_2 ho2) cls6 hT.obj (by omega) mo_X6_learnedVariables m_242 m_363 m_364 m_365 m_204 (by decide) rfl rfl (Nat.le_of_ble_eq_true rfl) ⟨rfl, rfl⟩ ⟨by decide, by decide⟩ dX7_learnInto_5 (vP_in ?_)
  refine v_istore_n X [(2, .int (nI (lrnVars cs tr q))), (0, .ref (ad k b)), (1, .ref (ad k bt))] dX7_learnInto_8 (by decide) rfl ?_
  refine v_aload_n X 2 dX7_learnInto_9 rfl ?_
  refine v_iload_n X 0 dX7_learnInto_10 rfl ?_
  refine v_callV X hCl hCR (c_X6_backjumpLevel l k M bt tr (some q) (lrnVars cs tr q) hT (by omega)) cls6 hT.obj (by omega) mo_X6_backjumpLevel m_243 m_366 m_367 m_368 m_204 (by decide) rfl rfl (Nat.le_of_ble_eq_true rfl) ⟨rfl, rfl⟩ ⟨by decide, by decide⟩ dX7_learnInto_11 (vP_in ?_)
  refine v_istore_n X [(3, .int (nI (bjLev tr (lrnVars cs tr q)))), (2, .int (nI (lrnVars cs tr q))), (0, .ref (ad k b)), (1, .ref (ad k bt))] dX7_learnInto_14 (by decide) rfl ?_
  refine v_aload_n X 2 dX7_learnInto_15 rfl ?_
  refine v_getN X cls5 F0_5 (by omega) 0 (by decide) nw_35 rfl rfl dX7_learnInto_16 ?_
  refine v_aload_n X 3 dX7_learnInto_19 rfl ?_
  refine v_iload_n X 1 dX7_learnInto_20 rfl ?_
  refine v_callV X hCl hCR (c_X6_falseClause l k M bt tr (some q) (lrnVars cs tr q) hT) cls6 hT.obj (by omega) mo_X6_falseClause m_245 m_369 m_370 m_371 m_204 (by decide) rfl rfl (Nat.le_of_ble_eq_true rfl) ⟨rfl, rfl⟩ ⟨by decide, by decide⟩ dX7_learnInto_21 (vP_in ?_)
  refine v_callV X hCl hCR (c_X1_add l k M (b + 1) cs (falseCl tr (lrnVars cs tr q)) hF_2 hl) cls1 hF_2.obj (by omega) mo_X1_add m_47 m_328 m_92 m_93 m_15 (by decide) rfl rfl (Nat.le_of_ble_eq_true rfl) ⟨rfl, rfl⟩ ⟨by decide, by decide⟩ dX7_learnInto_24 (vV_in (fun M_8 hp_9 => ?_))
  obtain ⟨P_11, hfr_10⟩ := hp_9
  have F_12 : M_8 b = .inr (5, [.ref (ad k (b + 1)), .ref (ad k (b + 3)), .int (nI ds.length)]) := by rw [hfr_10 b (by omega)]; exact F0_5
  have F_13 : M_8 (b + 3) = .inl (kI k, 8, .inl (fun zq => nI (g_4 zq))) := by rw [hfr_10 (b + 3) (by omega)]; exact F3_6
  have P_14 : TrAt k M_8 bt tr (some q) := hT.fr (fun i h1 h2 => hfr_10 i (by omega))
  refine v_aload_n X 2 dX7_learnInto_27 rfl ?_
  refine v_iload_n X 0 dX7_learnInto_28 rfl ?_
  have P_19 : StAt k M_8 b (cs ++ [falseCl tr (lrnVars cs tr q)]) ds := ⟨hN_1, P_11, hl_3, _, F_12, F_13, hg_7⟩
  refine v_callV X hCl hCR (c_X5_keepDecisions l k M_8 b (cs ++ [falseCl tr (lrnVars cs tr q)]) ds (bjLev tr (lrnVars cs tr q)) P_19 (by omega)) cls5 ⟨_, F_12⟩ (by omega) mo_X5_keepDecisions m_177 m_291 m_229 m_230 m_133 (by decide) rfl rfl (Nat.le_of_ble_eq_true rfl) ⟨rfl, rfl⟩ ⟨by decide, by decide⟩ dX7_learnInto_29 (vV_in (fun M_15 hp_16 => ?_))
  obtain ⟨P_18, hfr_17⟩ := hp_16
  have P_20 : TrAt k M_15 bt tr (some q) := P_14.fr (fun i h1 h2 => hfr_17 i (by omega))
  refine v_iload_n X 0 dX7_learnInto_32 rfl ?_
  exact v_iret X rq ⟨by decide, by decide⟩ rfl dX7_learnInto_33 ⟨_, rfl, rfl, P_18, (fun i hi => by rw [hfr_17 i (by omega), hfr_10 i (by omega)])⟩
