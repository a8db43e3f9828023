set_option maxHeartbeats 4000000 in
set_option maxRecDepth 100000 in
theorem c_X7_addConstraint (l : Launch) (k : KX) (M : Mem) (cs ds : List Nat) (mem : List SD) (sl : Nat → Option SD) (tx : List Nat) (x : Nat) (hSol : SolAt k M cs ds mem sl tx) (hx : xOK x) (hl : cs.length < 24) : CM l yX7_addConstraint cX7_addConstraint 2 ((some .int)) { frames := 6, cells := 0, slots := 0, locals := 135 } k [.ref (ad k 0), .int (nI x)] M (pI (fun r M' => (r = nI cs.length) ∧ SolAt k M' (cs ++ [x]) (sNew (cs ++ [x]) ds) (remF mem (cs, ds)) sl tx ∧ Fr 0 93 M M')) := by
  refine CM.of (by decide) (Nat.le_of_ble_eq_true rfl) (fun C X hCl hCR rq => ?_)
  show V C k 2 (0, 0) M 0 [(0, .ref (ad k 0)), (1, .int (nI x))] []
  obtain ⟨hN, F0, hTx, hS, hT, hMe, hMo, hEl, ⟨cs2, ds2, hS2⟩, ⟨tr2, cf2, hT2⟩, hV⟩ := id hSol
  have ho2 : csOK cs := hV.1.1
  have hds : ∀ d ∈ ds, d < 16 := hV.1.2.1
  have hlc : cs.length ≤ 24 := ho2.1
  have hld : ds.length ≤ 8 := hV.1.2.2
  have hok := cAt_ok ho2
  have hTL := hV.2.1
  have hc2 := ho2.app hl hx
  refine v_aload_n X 0 dX7_addConstraint_0 rfl ?_
  refine v_get X cls7 F0 (by omega) 3 (by decide) m_257 rfl rfl dX7_addConstraint_1 ?_
  refine v_aload_n X 0 dX7_addConstraint_4 rfl ?_
  refine v_get X cls7 F0 (by omega) 1 (by decide) m_251 rfl rfl dX7_addConstraint_5 ?_
  refine v_callV X hCl hCR (c_X3_remember l k M mem sl cs ds hMe hS) cls3 hMe.obj (by omega) mo_X3_remember m_151 m_325 m_326 m_327 m_148 (by decide) rfl rfl (Nat.le_of_ble_eq_true rfl) ⟨rfl, rfl⟩ ⟨by decide, by decide⟩ dX7_addConstraint_8 (vV_in (fun M_1 hp_2 => ?_))
  obtain ⟨P_4, hfr_3⟩ := hp_2
  have F_5 : M_1 0 = .inr (7, [.ref (ad k 1), .ref (ad k 5), .ref (ad k 9), .ref (ad k 13), .ref (ad k 17), .ref (ad k 19), .ref (ad k 21), .ref (ad k 25)]) := by rw [hfr_3 0 (by omega)]; exact F0
  have P_6 : TxAt k M_1 tx := hTx.fr (fun i h1 h2 => hfr_3 i (by omega))
  have P_7 : StAt k M_1 5 cs ds := hS.fr (fun i h1 h2 => hfr_3 i (by omega))
  have P_8 : TrAt k M_1 9 (build cs ds).1 (build cs ds).2 := hT.fr (fun i h1 h2 => hfr_3 i (by omega))
  have P_9 : MoAt k M_1 cs := hMo.fr (fun i h1 h2 => hfr_3 i (by omega))
  have P_10 : ElAt k M_1  := hEl.fr (fun i h1 h2 => hfr_3 i (by omega))
  have P_11 : StAt k M_1 21 cs2 ds2 := hS2.fr (fun i h1 h2 => hfr_3 i (by omega))
  have P_12 : TrAt k M_1 25 tr2 cf2 := hT2.fr (fun i h1 h2 => hfr_3 i (by omega))
  refine v_aload_n X 0 dX7_addConstraint_11 rfl ?_
  refine v_get X cls7 F_5 (by omega) 1 (by decide) m_251 rfl rfl dX7_addConstraint_12 ?_
  obtain ⟨hN_13, hF_14, hl_15, g_16, F0_17, F3_18, hg_19⟩ := id P_7
  refine v_getN X cls5 F0_17 (by omega) 0 (by decide) nw_11 rfl rfl dX7_addConstraint_15 ?_
  refine v_iload_n X 1 dX7_addConstraint_18 rfl ?_
  refine v_callV X hCl hCR (c_X1_add l k M_1 6 cs x hF_14 (by omega)) cls1 hF_14.obj (by omega) mo_X1_add m_47 m_328 m_92 m_93 m_15 (by decide) rfl rfl (Nat.le_of_ble_eq_true rfl) ⟨rfl, rfl⟩ ⟨by decide, by decide⟩ dX7_addConstraint_19 (vV_in (fun M_20 hp_21 => ?_))
  obtain ⟨P_23, hfr_22⟩ := hp_21
  have F_24 : M_20 0 = .inr (7, [.ref (ad k 1), .ref (ad k 5), .ref (ad k 9), .ref (ad k 13), .ref (ad k 17), .ref (ad k 19), .ref (ad k 21), .ref (ad k 25)]) := by rw [hfr_22 0 (by omega)]; exact F_5
  have F_25 : M_20 5 = .inr (5, [.ref (ad k 6), .ref (ad k 8), .int (nI ds.length)]) := by rw [hfr_22 5 (by omega)]; exact F0_17
  have F_26 : M_20 8 = .inl (kI k, 8, .inl (fun zq => nI (g_16 zq))) := by rw [hfr_22 8 (by omega)]; exact F3_18
  have P_27 : TxAt k M_20 tx := P_6.fr (fun i h1 h2 => hfr_22 i (by omega))
  have P_28 : TrAt k M_20 9 (build cs ds).1 (build cs ds).2 := P_8.fr (fun i h1 h2 => hfr_22 i (by omega))
  have P_29 : MoAt k M_20 cs := P_9.fr (fun i h1 h2 => hfr_22 i (by omega))
  have P_30 : ElAt k M_20  := P_10.fr (fun i h1 h2 => hfr_22 i (by omega))
  have P_31 : StAt k M_20 21 cs2 ds2 := P_11.fr (fun i h1 h2 => hfr_22 i (by omega))
  have P_32 : TrAt k M_20 25 tr2 cf2 := P_12.fr (fun i h1 h2 => hfr_22 i (by omega))
  have P_33 : MeAt k M_20 (remF mem (cs, ds)) sl := P_4.fr (fun i h1 h2 => hfr_22 i (by omega))
  refine v_aload_n X 0 dX7_addConstraint_22 rfl ?_
  have P_34 : StAt k M_20 5 (cs ++ [x]) ds := ⟨hN_13, P_23, hl_15, _, F_25, F_26, hg_19⟩
  refine v_callV X hCl hCR (c_X7_rebuild l k M_20 (cs ++ [x]) ds cs (build cs ds).1 (build cs ds).2 hN F_24 P_34 P_28 P_29 hc2 hds) cls7 ⟨_, F_24⟩ (by omega) mo_X7_rebuild m_289 m_298 m_299 m_300 m_21 (by decide) rfl rfl (Nat.le_of_ble_eq_true rfl) ⟨rfl, rfl⟩ ⟨by decide, by decide⟩ dX7_addConstraint_23 (vV_in (fun M_35 hp_36 => ?_))
  obtain ⟨P_38, P_39, P_40, hfr_37⟩ := hp_36
  have F_41 : M_35 0 = .inr (7, [.ref (ad k 1), .ref (ad k 5), .ref (ad k 9), .ref (ad k 13), .ref (ad k 17), .ref (ad k 19), .ref (ad k 21), .ref (ad k 25)]) := by rw [hfr_37 0 (by omega) (by omega)]; exact F_24
  have P_42 : TxAt k M_35 tx := P_27.fr (fun i h1 h2 => hfr_37 i (by omega) (by omega))
  have P_43 : ElAt k M_35  := P_30.fr (fun i h1 h2 => hfr_37 i (by omega) (by omega))
  have P_44 : StAt k M_35 21 cs2 ds2 := P_31.fr (fun i h1 h2 => hfr_37 i (by omega) (by omega))
  have P_45 : TrAt k M_35 25 tr2 cf2 := P_32.fr (fun i h1 h2 => hfr_37 i (by omega) (by omega))
  have P_46 : MeAt k M_35 (remF mem (cs, ds)) sl := P_33.fr (fun i h1 h2 => hfr_37 i (by omega) (by omega))
  refine v_aload_n X 0 dX7_addConstraint_26 rfl ?_
  refine v_get X cls7 F_41 (by omega) 1 (by decide) m_251 rfl rfl dX7_addConstraint_27 ?_
  obtain ⟨hN_47, hF_48, hl_49, g_50, F0_51, F3_52, hg_53⟩ := id P_38
  refine v_getN X cls5 F0_51 (by omega) 0 (by decide) nw_11 rfl rfl dX7_addConstraint_30 ?_
  obtain ⟨hN_55, hl_56, f_54, F_57, F_58, hf_59⟩ := id hF_48
  refine v_getN X cls1 F_57 (by omega) 1 (by decide) nw_5 rfl rfl dX7_addConstraint_33 ?_
  refine v_top (show (Value.int (nI (((cs ++ [x])).length)) : Value) = .int (nI (cs.length + 1)) from congrArg _ (congrArg nI (by simp))) ?_
  refine v_iconst X (v := nI 1) (by decide) dX7_addConstraint_36 ?_
  refine v_subN X (by omega) dX7_addConstraint_37 ?_
  exact v_iret X rq ⟨by decide, by decide⟩ rfl dX7_addConstraint_38 ⟨_, rfl, by rw [Nat.add_sub_cancel], ⟨hN, F_41, P_42, P_38, (by rw [(sNew_spec _ _).1]; exact P_39), P_46, P_40, P_43, ⟨_, _, P_44⟩, ⟨_, _, P_45⟩, (hV.act hc2 hds hld)⟩, (fun i hi => by rw [hfr_37 i (by omega) (by omega), hfr_22 i (by omega), hfr_3 i (by omega)])⟩
set_option maxHeartbeats 4000000 in
set_option maxRecDepth 100000 in
theorem c_X7_addClause (l : Launch) (hst0 : l.stackTraces = false) (k : KX) (M : Mem) (cs ds : List Nat) (mem : List SD) (sl : Nat → Option SD) (tx : List Nat) (p n : Int32) (hSol : SolAt k M cs ds mem sl tx) : CX l yX7_addClause cX7_addClause 3 ((some .int)) { frames := 7, cells := 2, slots := 12, locals := 156 } k [.ref (ad k 0), .int p, .int n] M (pI (fun r M' => (∃ p0 n0, p0 < 256 ∧ n0 < 256 ∧ p = nI p0 ∧ n = nI n0 ∧ p0 &&& n0 = 0 ∧ cs.length < 24 ∧ r = nI cs.length ∧ SolAt k M' (cs ++ [xClause p0 n0]) (sNew (cs ++ [xClause p0 n0]) ds) (remF mem (cs, ds)) sl tx) ∧ Fr 0 93 M M')) (fun E M' => ((E = xIAE ∧ ¬ (inR p 255 = true ∧ inR n 255 = true ∧ p &&& n = 0)) ∨ (E = xISE ∧ (inR p 255 = true ∧ inR n 255 = true ∧ p &&& n = 0) ∧ 24 ≤ cs.length)) ∧ SolAt k M' cs ds mem sl tx ∧ Fr 0 93 M M') := by
  refine CX.of (by decide) (Nat.le_of_ble_eq_true rfl) (fun C X hCl hCR rx => ?_)
  have rq := rx.q
  have hst : (C_l C).stackTraces = false := by rw [hCl]; exact hst0
  show V C k 3 (0, 0) M 0 [(0, .ref (ad k 0)), (1, .int p), (2, .int n)] []
  obtain ⟨hN, F0, hTx, hS, hT, hMe, hMo, hEl, ⟨cs2, ds2, hS2⟩, ⟨tr2, cf2, hT2⟩, hV⟩ := id hSol
  have ho2 : csOK cs := hV.1.1
  have hds : ∀ d ∈ ds, d < 16 := hV.1.2.1
  have hlc : cs.length ≤ 24 := ho2.1
  have hld : ds.length ≤ 8 := hV.1.2.2
  have hok := cAt_ok ho2
  have hTL := hV.2.1
  refine v_iload_n X 1 dX7_addClause_0 rfl ?_
  refine v_iload_n X 2 dX7_addClause_1 rfl ?_
  refine vx_callS' X rx.2.1 hCl hCR (c_X7_requireClause l hst0 k M p n) mo_X7_requireClause m_320 m_330 m_331 m_21 (by decide) rfl rfl (Nat.le_of_ble_eq_true rfl) ⟨by decide, by decide⟩ dX7_addClause_2 (vV_in (fun M_1 hp_2 => ?_)) (fun E M_4 hx => v_out X rx ⟨by decide, by decide⟩ (⟨Or.inl ⟨hx.1, hx.2.1⟩, (by obtain ⟨-, -, rfl⟩ := hx; exact hSol), (by obtain ⟨-, -, rfl⟩ := hx; exact Fr.rf)⟩))
  obtain ⟨rfl, hq_3⟩ := hp_2
  have hq := hq_3
  refine v_aload_n X 0 dX7_addClause_5 rfl ?_
  refine vx_callV' X rx.2.1 hCl hCR (c_X7_requireRoom l hst0 k M cs ds hN F0 hS) cls7 ⟨_, F0⟩ (by omega) mo_X7_requireRoom m_323 m_332 m_333 m_334 m_21 (by decide) rfl rfl (Nat.le_of_ble_eq_true rfl) ⟨by decide, by decide⟩ dX7_addClause_6 (vV_in (fun M_5 hp_6 => ?_)) (fun E M_8 hx => v_out X rx ⟨by decide, by decide⟩ (⟨Or.inr ⟨hx.1, hq, hx.2.1⟩, (by obtain ⟨-, -, rfl⟩ := hx; exact hSol), (by obtain ⟨-, -, rfl⟩ := hx; exact Fr.rf)⟩))
  obtain ⟨rfl, hq_7⟩ := hp_6
  have hr := hq_7
  obtain ⟨p0, hp0, rfl⟩ := inR_of (by decide) hq.1
  obtain ⟨n0, hn0, rfl⟩ := inR_of (by decide) hq.2.1
  have hpn : p0 &&& n0 = 0 := (nI_eq (and_ltl (by omega)) (by decide)).mp (by rw [← w_and]; exact hq.2.2)
  refine v_aload_n X 0 dX7_addClause_9 rfl ?_
  refine v_iload_n X 1 dX7_addClause_10 rfl ?_
  refine v_iload_n X 2 dX7_addClause_11 rfl ?_
  refine v_callS X hCl hCR (c_X7_clauseCode l k M p0 n0) mo_X7_clauseCode m_89 m_335 m_107 m_21 (by decide) rfl rfl (Nat.le_of_ble_eq_true rfl) ⟨rfl, rfl⟩ ⟨by decide, by decide⟩ dX7_addClause_12 (vP_in ?_)
  refine v_callV X hCl hCR (c_X7_addConstraint l k M cs ds mem sl tx (xClause p0 n0) hSol (xOK_clause (by omega) (by omega) hpn) hr) cls7 ⟨_, F0⟩ (by omega) mo_X7_addConstraint m_329 m_336 m_337 m_338 m_21 (by decide) rfl rfl (Nat.le_of_ble_eq_true rfl) ⟨rfl, rfl⟩ ⟨by decide, by decide⟩ dX7_addClause_15 (vI_in (fun r_11 M_9 hac => ?_))
  exact v_iret X rq ⟨by decide, by decide⟩ rfl dX7_addClause_18 ⟨_, rfl, ⟨p0, n0, by omega, by omega, rfl, rfl, hpn, hr, hac.1, hac.2.1⟩, hac.2.2⟩
set_option maxHeartbeats 4000000 in
set_option maxRecDepth 100000 in
theorem c_X7_addParity (l : Launch) (hst0 : l.stackTraces = false) (k : KX) (M : Mem) (cs ds : List Nat) (mem : List SD) (sl : Nat → Option SD) (tx : List Nat) (m b : Int32) (hSol : SolAt k M cs ds mem sl tx) : CX l yX7_addParity cX7_addParity 3 ((some .int)) { frames := 7, cells := 2, slots := 12, locals := 156 } k [.ref (ad k 0), .int m, .int b] M (pI (fun r M' => (∃ m0 b0, m0 < 256 ∧ b0 < 2 ∧ m = nI m0 ∧ b = nI b0 ∧ cs.length < 24 ∧ r = nI cs.length ∧ SolAt k M' (cs ++ [xParity m0 b0]) (sNew (cs ++ [xParity m0 b0]) ds) (remF mem (cs, ds)) sl tx) ∧ Fr 0 93 M M')) (fun E M' => ((E = xIAE ∧ ¬ (inR m 255 = true ∧ inR b 1 = true)) ∨ (E = xISE ∧ (inR m 255 = true ∧ inR b 1 = true) ∧ 24 ≤ cs.length)) ∧ SolAt k M' cs ds mem sl tx ∧ Fr 0 93 M M') := by
  refine CX.of (by decide) (Nat.le_of_ble_eq_true rfl) (fun C X hCl hCR rx => ?_)
  have rq := rx.q
  have hst : (C_l C).stackTraces = false := by rw [hCl]; exact hst0
  show V C k 3 (0, 0) M 0 [(0, .ref (ad k 0)), (1, .int m), (2, .int b)] []
  obtain ⟨hN, F0, hTx, hS, hT, hMe, hMo, hEl, ⟨cs2, ds2, hS2⟩, ⟨tr2, cf2, hT2⟩, hV⟩ := id hSol
  have ho2 : csOK cs := hV.1.1
  have hds : ∀ d ∈ ds, d < 16 := hV.1.2.1
  have hlc : cs.length ≤ 24 := ho2.1
  have hld : ds.length ≤ 8 := hV.1.2.2
  have hok := cAt_ok ho2
  have hTL := hV.2.1
  refine v_iload_n X 1 dX7_addParity_0 rfl ?_
  refine v_iload_n X 2 dX7_addParity_1 rfl ?_
  refine vx_callS' X rx.2.1 hCl hCR (c_X7_requireParity l hst0 k M m b) mo_X7_requireParity m_340 m_341 m_342 m_21 (by decide) rfl rfl (Nat.le_of_ble_eq_true rfl) ⟨by decide, by decide⟩ dX7_addParity_2 (vV_in (fun M_1 hp_2 => ?_)) (fun E M_4 hx => v_out X rx ⟨by decide, by decide⟩ (⟨Or.inl ⟨hx.1, hx.2.1⟩, (by obtain ⟨-, -, rfl⟩ := hx; exact hSol), (by obtain ⟨-, -, rfl⟩ := hx; exact Fr.rf)⟩))
  obtain ⟨rfl, hq_3⟩ := hp_2
  have hq := hq_3
  refine v_aload_n X 0 dX7_addParity_5 rfl ?_
  refine vx_callV' X rx.2.1 hCl hCR (c_X7_requireRoom l hst0 k M cs ds hN F0 hS) cls7 ⟨_, F0⟩ (by omega) mo_X7_requireRoom m_323 m_332 m_333 m_334 m_21 (by decide) rfl rfl (Nat.le_of_ble_eq_true rfl) ⟨by decide, by decide⟩ dX7_addParity_6 (vV_in (fun M_5 hp_6 => ?_)) (fun E M_8 hx => v_out X rx ⟨by decide, by decide⟩ (⟨Or.inr ⟨hx.1, hq, hx.2.1⟩, (by obtain ⟨-, -, rfl⟩ := hx; exact hSol), (by obtain ⟨-, -, rfl⟩ := hx; exact Fr.rf)⟩))
  obtain ⟨rfl, hq_7⟩ := hp_6
  have hr := hq_7
  obtain ⟨m0, hm0, rfl⟩ := inR_of (by decide) hq.1
  obtain ⟨b0, hb0, rfl⟩ := inR_of (by decide) hq.2
  refine v_aload_n X 0 dX7_addParity_9 rfl ?_
  refine v_iload_n X 1 dX7_addParity_10 rfl ?_
  refine v_iload_n X 2 dX7_addParity_11 rfl ?_
  refine v_callS X hCl hCR (c_X7_parityCode l k M m0 b0) mo_X7_parityCode m_98 m_343 m_99 m_21 (by decide) rfl rfl (Nat.le_of_ble_eq_true rfl) ⟨rfl, rfl⟩ ⟨by decide, by decide⟩ dX7_addParity_12 (vP_in ?_)
  refine v_callV X hCl hCR (c_X7_addConstraint l k M cs ds mem sl tx (xParity m0 b0) hSol (xOK_parity (by omega) (by omega)) hr) cls7 ⟨_, F0⟩ (by omega) mo_X7_addConstraint m_329 m_336 m_337 m_338 m_21 (by decide) rfl rfl (Nat.le_of_ble_eq_true rfl) ⟨rfl, rfl⟩ ⟨by decide, by decide⟩ dX7_addParity_15 (vI_in (fun r_11 M_9 hac => ?_))
  exact v_iret X rq ⟨by decide, by decide⟩ rfl dX7_addParity_18 ⟨_, rfl, ⟨m0, b0, by omega, by omega, rfl, rfl, hr, hac.1, hac.2.1⟩, hac.2.2⟩
set_option maxHeartbeats 4000000 in
set_option maxRecDepth 100000 in
theorem c_X7_impliesClause (l : Launch) (hst0 : l.stackTraces = false) (k : KX) (M : Mem) (cs ds : List Nat) (mem : List SD) (sl : Nat → Option SD) (tx : List Nat) (p n : Int32) (hSol : SolAt k M cs ds mem sl tx) : CX l yX7_impliesClause cX7_impliesClause 3 ((some .boolean)) { frames := 7, cells := 1, slots := 6, locals := 111 } k [.ref (ad k 0), .int p, .int n] M (pI (fun r M' => ((∃ p0 n0, p0 < 256 ∧ n0 < 256 ∧ p = nI p0 ∧ n = nI n0 ∧ p0 &&& n0 = 0 ∧ r = bI (allS cs (xClause p0 n0)))) ∧ SolAt k M' cs ds mem sl tx ∧ Fr 0 93 M M')) (fun E M' => (E = xIAE ∧ ¬ (inR p 255 = true ∧ inR n 255 = true ∧ p &&& n = 0)) ∧ SolAt k M' cs ds mem sl tx ∧ Fr 0 93 M M') := by
  refine CX.of (by decide) (Nat.le_of_ble_eq_true rfl) (fun C X hCl hCR rx => ?_)
  have rq := rx.q
  have hst : (C_l C).stackTraces = false := by rw [hCl]; exact hst0
  show V C k 3 (0, 0) M 0 [(0, .ref (ad k 0)), (1, .int p), (2, .int n)] []
  obtain ⟨hN, F0, hTx, hS, hT, hMe, hMo, hEl, ⟨cs2, ds2, hS2⟩, ⟨tr2, cf2, hT2⟩, hV⟩ := id hSol
  have ho2 : csOK cs := hV.1.1
  have hds : ∀ d ∈ ds, d < 16 := hV.1.2.1
  have hlc : cs.length ≤ 24 := ho2.1
  have hld : ds.length ≤ 8 := hV.1.2.2
  have hok := cAt_ok ho2
  have hTL := hV.2.1
  refine v_iload_n X 1 dX7_impliesClause_0 rfl ?_
  refine v_iload_n X 2 dX7_impliesClause_1 rfl ?_
  refine vx_callS' X rx.2.1 hCl hCR (c_X7_requireClause l hst0 k M p n) mo_X7_requireClause m_320 m_330 m_331 m_21 (by decide) rfl rfl (Nat.le_of_ble_eq_true rfl) ⟨by decide, by decide⟩ dX7_impliesClause_2 (vV_in (fun M_1 hp_2 => ?_)) (fun E M_4 hx => v_out X rx ⟨by decide, by decide⟩ (⟨⟨hx.1, hx.2.1⟩, (by obtain ⟨-, -, rfl⟩ := hx; exact hSol), (by obtain ⟨-, -, rfl⟩ := hx; exact Fr.rf)⟩))
  obtain ⟨rfl, hq_3⟩ := hp_2
  have hq := hq_3
  obtain ⟨p0, hp0, rfl⟩ := inR_of (by decide) hq.1
  obtain ⟨n0, hn0, rfl⟩ := inR_of (by decide) hq.2.1
  have hpn : p0 &&& n0 = 0 := (nI_eq (and_ltl (by omega)) (by decide)).mp (by rw [← w_and]; exact hq.2.2)
  have hxl := xClause_lt (show p0 < 256 by omega) (show n0 < 256 by omega)
  refine v_aload_n X 0 dX7_impliesClause_5 rfl ?_
  refine v_get X cls7 F0 (by omega) 4 (by decide) m_260 rfl rfl dX7_impliesClause_6 ?_
  refine v_aload_n X 0 dX7_impliesClause_9 rfl ?_
  refine v_get X cls7 F0 (by omega) 1 (by decide) m_251 rfl rfl dX7_impliesClause_10 ?_
  obtain ⟨hN_5, hF_6, hl_7, g_8, F0_9, F3_10, hg_11⟩ := id hS
  refine v_getN X cls5 F0_9 (by omega) 0 (by decide) nw_11 rfl rfl dX7_impliesClause_13 ?_
  refine v_callV X hCl hCR (c_X4_refresh l k M cs 6 hMo hF_6 ho2 (by omega)) cls4 hMo.obj (by omega) mo_X4_refresh m_170 m_394 m_395 m_396 m_169 (by decide) rfl rfl (Nat.le_of_ble_eq_true rfl) ⟨rfl, rfl⟩ ⟨by decide, by decide⟩ dX7_impliesClause_16 (vV_in (fun M_12 hp_13 => ?_))
  obtain ⟨P_15, hfr_14⟩ := hp_13
  have F_16 : M_12 0 = .inr (7, [.ref (ad k 1), .ref (ad k 5), .ref (ad k 9), .ref (ad k 13), .ref (ad k 17), .ref (ad k 19), .ref (ad k 21), .ref (ad k 25)]) := by rw [hfr_14 0 (by omega)]; exact F0
  have F_17 : M_12 5 = .inr (5, [.ref (ad k 6), .ref (ad k 8), .int (nI ds.length)]) := by rw [hfr_14 5 (by omega)]; exact F0_9
  have F_18 : M_12 8 = .inl (kI k, 8, .inl (fun zq => nI (g_8 zq))) := by rw [hfr_14 8 (by omega)]; exact F3_10
  have P_19 : TxAt k M_12 tx := hTx.fr (fun i h1 h2 => hfr_14 i (by omega))
  have P_20 : StAt k M_12 5 cs ds := hS.fr (fun i h1 h2 => hfr_14 i (by omega))
  have P_21 : TrAt k M_12 9 (build cs ds).1 (build cs ds).2 := hT.fr (fun i h1 h2 => hfr_14 i (by omega))
  have P_22 : MeAt k M_12 mem sl := hMe.fr (fun i h1 h2 => hfr_14 i (by omega))
  have P_23 : ElAt k M_12  := hEl.fr (fun i h1 h2 => hfr_14 i (by omega))
  have P_24 : StAt k M_12 21 cs2 ds2 := hS2.fr (fun i h1 h2 => hfr_14 i (by omega))
  have P_25 : TrAt k M_12 25 tr2 cf2 := hT2.fr (fun i h1 h2 => hfr_14 i (by omega))
  have P_26 : FmAt k M_12 6 cs := hF_6.fr (fun i h1 h2 => hfr_14 i (by omega))
  refine v_aload_n X 0 dX7_impliesClause_19 rfl ?_
  refine v_get X cls7 F_16 (by omega) 4 (by decide) m_260 rfl rfl dX7_impliesClause_20 ?_
  refine v_iload_n X 1 dX7_impliesClause_23 rfl ?_
  refine v_iload_n X 2 dX7_impliesClause_24 rfl ?_
  refine v_callS X hCl hCR (c_X7_clauseCode l k M_12 p0 n0) mo_X7_clauseCode m_89 m_335 m_107 m_21 (by decide) rfl rfl (Nat.le_of_ble_eq_true rfl) ⟨rfl, rfl⟩ ⟨by decide, by decide⟩ dX7_impliesClause_25 (vP_in ?_)
  refine v_callV X hCl hCR (c_X4_allSatisfy l k M_12 cs (xClause p0 n0) P_15 (by omega) (by omega)) cls4 P_15.obj (by omega) mo_X4_allSatisfy m_173 m_405 m_406 m_407 m_169 (by decide) rfl rfl (Nat.le_of_ble_eq_true rfl) ⟨rfl, rfl⟩ ⟨by decide, by decide⟩ dX7_impliesClause_28 (vP_in ?_)
  exact v_iret X rq ⟨by decide, by decide⟩ (narZ _) dX7_impliesClause_31 ⟨_, rfl, ⟨p0, n0, by omega, by omega, rfl, rfl, hpn, rfl⟩, ⟨hN, F_16, P_19, P_20, P_21, P_22, P_15.at, P_23, ⟨_, _, P_24⟩, ⟨_, _, P_25⟩, hV⟩, (fun i hi => by rw [hfr_14 i (by omega)])⟩
set_option maxHeartbeats 4000000 in
set_option maxRecDepth 100000 in
theorem c_X7_impliesParity (l : Launch) (hst0 : l.stackTraces = false) (k : KX) (M : Mem) (cs ds : List Nat) (mem : List SD) (sl : Nat → Option SD) (tx : List Nat) (m b : Int32) (hSol : SolAt k M cs ds mem sl tx) : CX l yX7_impliesParity cX7_impliesParity 3 ((some .boolean)) { frames := 7, cells := 1, slots := 6, locals := 111 } k [.ref (ad k 0), .int m, .int b] M (pI (fun r M' => ((∃ m0 b0, m0 < 256 ∧ b0 < 2 ∧ m = nI m0 ∧ b = nI b0 ∧ r = bI (allS cs (xParity m0 b0)))) ∧ SolAt k M' cs ds mem sl tx ∧ Fr 0 93 M M')) (fun E M' => (E = xIAE ∧ ¬ (inR m 255 = true ∧ inR b 1 = true)) ∧ SolAt k M' cs ds mem sl tx ∧ Fr 0 93 M M') := by
  refine CX.of (by decide) (Nat.le_of_ble_eq_true rfl) (fun C X hCl hCR rx => ?_)
  have rq := rx.q
  have hst : (C_l C).stackTraces = false := by rw [hCl]; exact hst0
  show V C k 3 (0, 0) M 0 [(0, .ref (ad k 0)), (1, .int m), (2, .int b)] []
  obtain ⟨hN, F0, hTx, hS, hT, hMe, hMo, hEl, ⟨cs2, ds2, hS2⟩, ⟨tr2, cf2, hT2⟩, hV⟩ := id hSol
  have ho2 : csOK cs := hV.1.1
  have hds : ∀ d ∈ ds, d < 16 := hV.1.2.1
  have hlc : cs.length ≤ 24 := ho2.1
  have hld : ds.length ≤ 8 := hV.1.2.2
  have hok := cAt_ok ho2
  have hTL := hV.2.1
  refine v_iload_n X 1 dX7_impliesParity_0 rfl ?_
  refine v_iload_n X 2 dX7_impliesParity_1 rfl ?_
  refine vx_callS' X rx.2.1 hCl hCR (c_X7_requireParity l hst0 k M m b) mo_X7_requireParity m_340 m_341 m_342 m_21 (by decide) rfl rfl (Nat.le_of_ble_eq_true rfl) ⟨by decide, by decide⟩ dX7_impliesParity_2 (vV_in (fun M_1 hp_2 => ?_)) (fun E M_4 hx => v_out X rx ⟨by decide, by decide⟩ (⟨⟨hx.1, hx.2.1⟩, (by obtain ⟨-, -, rfl⟩ := hx; exact hSol), (by obtain ⟨-, -, rfl⟩ := hx; exact Fr.rf)⟩))
  obtain ⟨rfl, hq_3⟩ := hp_2
  have hq := hq_3
  obtain ⟨m0, hm0, rfl⟩ := inR_of (by decide) hq.1
  obtain ⟨b0, hb0, rfl⟩ := inR_of (by decide) hq.2
  have hxl := xParity_lt (show m0 < 256 by omega) (show b0 < 256 by omega)
  refine v_aload_n X 0 dX7_impliesParity_5 rfl ?_
  refine v_get X cls7 F0 (by omega) 4 (by decide) m_260 rfl rfl dX7_impliesParity_6 ?_
  refine v_aload_n X 0 dX7_impliesParity_9 rfl ?_
  refine v_get X cls7 F0 (by omega) 1 (by decide) m_251 rfl rfl dX7_impliesParity_10 ?_
  obtain ⟨hN_5, hF_6, hl_7, g_8, F0_9, F3_10, hg_11⟩ := id hS
  refine v_getN X cls5 F0_9 (by omega) 0 (by decide) nw_11 rfl rfl dX7_impliesParity_13 ?_
  refine v_callV X hCl hCR (c_X4_refresh l k M cs 6 hMo hF_6 ho2 (by omega)) cls4 hMo.obj (by omega) mo_X4_refresh m_170 m_394 m_395 m_396 m_169 (by decide) rfl rfl (Nat.le_of_ble_eq_true rfl) ⟨rfl, rfl⟩ ⟨by decide, by decide⟩ dX7_impliesParity_16 (vV_in (fun M_12 hp_13 => ?_))
  obtain ⟨P_15, hfr_14⟩ := hp_13
  have F_16 : M_12 0 = .inr (7, [.ref (ad k 1), .ref (ad k 5), .ref (ad k 9), .ref (ad k 13), .ref (ad k 17), .ref (ad k 19), .ref (ad k 21), .ref (ad k 25)]) := by rw [hfr_14 0 (by omega)]; exact F0
  have F_17 : M_12 5 = .inr (5, [.ref (ad k 6), .ref (ad k 8), .int (nI ds.length)]) := by rw [hfr_14 5 (by omega)]; exact F0_9
  have F_18 : M_12 8 = .inl (kI k, 8, .inl (fun zq => nI (g_8 zq))) := by rw [hfr_14 8 (by omega)]; exact F3_10
  have P_19 : TxAt k M_12 tx := hTx.fr (fun i h1 h2 => hfr_14 i (by omega))
  have P_20 : StAt k M_12 5 cs ds := hS.fr (fun i h1 h2 => hfr_14 i (by omega))
  have P_21 : TrAt k M_12 9 (build cs ds).1 (build cs ds).2 := hT.fr (fun i h1 h2 => hfr_14 i (by omega))
  have P_22 : MeAt k M_12 mem sl := hMe.fr (fun i h1 h2 => hfr_14 i (by omega))
  have P_23 : ElAt k M_12  := hEl.fr (fun i h1 h2 => hfr_14 i (by omega))
  have P_24 : StAt k M_12 21 cs2 ds2 := hS2.fr (fun i h1 h2 => hfr_14 i (by omega))
  have P_25 : TrAt k M_12 25 tr2 cf2 := hT2.fr (fun i h1 h2 => hfr_14 i (by omega))
  have P_26 : FmAt k M_12 6 cs := hF_6.fr (fun i h1 h2 => hfr_14 i (by omega))
  refine v_aload_n X 0 dX7_impliesParity_19 rfl ?_
  refine v_get X cls7 F_16 (by omega) 4 (by decide) m_260 rfl rfl dX7_impliesParity_20 ?_
  refine v_iload_n X 1 dX7_impliesParity_23 rfl ?_
  refine v_iload_n X 2 dX7_impliesParity_24 rfl ?_
  refine v_callS X hCl hCR (c_X7_parityCode l k M_12 m0 b0) mo_X7_parityCode m_98 m_343 m_99 m_21 (by decide) rfl rfl (Nat.le_of_ble_eq_true rfl) ⟨rfl, rfl⟩ ⟨by decide, by decide⟩ dX7_impliesParity_25 (vP_in ?_)
  refine v_callV X hCl hCR (c_X4_allSatisfy l k M_12 cs (xParity m0 b0) P_15 (by omega) (by omega)) cls4 P_15.obj (by omega) mo_X4_allSatisfy m_173 m_405 m_406 m_407 m_169 (by decide) rfl rfl (Nat.le_of_ble_eq_true rfl) ⟨rfl, rfl⟩ ⟨by decide, by decide⟩ dX7_impliesParity_28 (vP_in ?_)
  exact v_iret X rq ⟨by decide, by decide⟩ (narZ _) dX7_impliesParity_31 ⟨_, rfl, ⟨m0, b0, by omega, by omega, rfl, rfl, rfl⟩, ⟨hN, F_16, P_19, P_20, P_21, P_22, P_15.at, P_23, ⟨_, _, P_24⟩, ⟨_, _, P_25⟩, hV⟩, (fun i hi => by rw [hfr_14 i (by omega)])⟩
set_option maxHeartbeats 4000000 in
set_option maxRecDepth 100000 in
theorem c_X7_removeConstraint (l : Launch) (hst0 : l.stackTraces = false) (k : KX) (M : Mem) (cs ds : List Nat) (mem : List SD) (sl : Nat → Option SD) (tx : List Nat) (x : Int32) (hSol : SolAt k M cs ds mem sl tx) : CX l yX7_removeConstraint cX7_removeConstraint 2 ((some .int)) { frames := 7, cells := 1, slots := 6, locals := 135 } k [.ref (ad k 0), .int x] M (pI (fun r M' => (∃ j, j < cs.length ∧ x = nI j ∧ r = nI (cs.length - 1) ∧ SolAt k M' (cs.eraseIdx j) (sNew (cs.eraseIdx j) ds) (remF mem (cs, ds)) sl tx) ∧ Fr 0 93 M M')) (fun E M' => (E = xIOB ∧ inL x cs.length = false) ∧ SolAt k M' cs ds mem sl tx ∧ Fr 0 93 M M') := by
  refine CX.of (by decide) (Nat.le_of_ble_eq_true rfl) (fun C X hCl hCR rx => ?_)
  have rq := rx.q
  have hst : (C_l C).stackTraces = false := by rw [hCl]; exact hst0
  show V C k 2 (0, 0) M 0 [(0, .ref (ad k 0)), (1, .int x)] []
  obtain ⟨hN, F0, hTx, hS, hT, hMe, hMo, hEl, ⟨cs2, ds2, hS2⟩, ⟨tr2, cf2, hT2⟩, hV⟩ := id hSol
  have ho2 : csOK cs := hV.1.1
  have hds : ∀ d ∈ ds, d < 16 := hV.1.2.1
  have hlc : cs.length ≤ 24 := ho2.1
  have hld : ds.length ≤ 8 := hV.1.2.2
  have hok := cAt_ok ho2
  have hTL := hV.2.1
  refine v_aload_n X 0 dX7_removeConstraint_0 rfl ?_
  refine v_iload_n X 1 dX7_removeConstraint_1 rfl ?_
  refine vx_callV' X rx.2.1 hCl hCR (c_X7_requireConstraint l hst0 k M cs ds x hN F0 hS) cls7 ⟨_, F0⟩ (by omega) mo_X7_requireConstraint m_303 m_308 m_309 m_310 m_21 (by decide) rfl rfl (Nat.le_of_ble_eq_true rfl) ⟨by decide, by decide⟩ dX7_removeConstraint_2 (vV_in (fun M_1 hp_2 => ?_)) (fun E M_4 hx => v_out X rx ⟨by decide, by decide⟩ (⟨⟨hx.1, hx.2.1⟩, (by obtain ⟨-, -, rfl⟩ := hx; exact hSol), (by obtain ⟨-, -, rfl⟩ := hx; exact Fr.rf)⟩))
  obtain ⟨rfl, hq_3⟩ := hp_2
  have hq := hq_3
  obtain ⟨j, hj, rfl⟩ := inL_of (by omega) hq
  refine v_aload_n X 0 dX7_removeConstraint_5 rfl ?_
  refine v_get X cls7 F0 (by omega) 3 (by decide) m_257 rfl rfl dX7_removeConstraint_6 ?_
  refine v_aload_n X 0 dX7_removeConstraint_9 rfl ?_
  refine v_get X cls7 F0 (by omega) 1 (by decide) m_251 rfl rfl dX7_removeConstraint_10 ?_
  refine v_callV X hCl hCR (c_X3_remember l k M mem sl cs ds hMe hS) cls3 hMe.obj (by omega) mo_X3_remember m_151 m_325 m_326 m_327 m_148 (by decide) rfl rfl (Nat.le_of_ble_eq_true rfl) ⟨rfl, rfl⟩ ⟨by decide, by decide⟩ dX7_removeConstraint_13 (vV_in (fun M_5 hp_6 => ?_))
  obtain ⟨P_8, hfr_7⟩ := hp_6
  have F_9 : M_5 0 = .inr (7, [.ref (ad k 1), .ref (ad k 5), .ref (ad k 9), .ref (ad k 13), .ref (ad k 17), .ref (ad k 19), .ref (ad k 21), .ref (ad k 25)]) := by rw [hfr_7 0 (by omega)]; exact F0
  have P_10 : TxAt k M_5 tx := hTx.fr (fun i h1 h2 => hfr_7 i (by omega))
  have P_11 : StAt k M_5 5 cs ds := hS.fr (fun i h1 h2 => hfr_7 i (by omega))
  have P_12 : TrAt k M_5 9 (build cs ds).1 (build cs ds).2 := hT.fr (fun i h1 h2 => hfr_7 i (by omega))
  have P_13 : MoAt k M_5 cs := hMo.fr (fun i h1 h2 => hfr_7 i (by omega))
  have P_14 : ElAt k M_5  := hEl.fr (fun i h1 h2 => hfr_7 i (by omega))
  have P_15 : StAt k M_5 21 cs2 ds2 := hS2.fr (fun i h1 h2 => hfr_7 i (by omega))
  have P_16 : TrAt k M_5 25 tr2 cf2 := hT2.fr (fun i h1 h2 => hfr_7 i (by omega))
  refine v_aload_n X 0 dX7_removeConstraint_16 rfl ?_
  refine v_get X cls7 F_9 (by omega) 1 (by decide) m_251 rfl rfl dX7_removeConstraint_17 ?_
  obtain ⟨hN_17, hF_18, hl_19, g_20, F0_21, F3_22, hg_23⟩ := id P_11
  refine v_getN X cls5 F0_21 (by omega) 0 (by decide) nw_11 rfl rfl dX7_removeConstraint_20 ?_
  refine v_iload_n X 1 dX7_removeConstraint_23 rfl ?_
  refine v_callV X hCl hCR (c_X1_removeAt l k M_5 6 cs j hF_18 (by omega)) cls1 hF_18.obj (by omega) mo_X1_removeAt m_51 m_345 m_346 m_347 m_15 (by decide) rfl rfl (Nat.le_of_ble_eq_true rfl) ⟨rfl, rfl⟩ ⟨by decide, by decide⟩ dX7_removeConstraint_24 (vV_in (fun M_24 hp_25 => ?_))
  obtain ⟨P_27, hfr_26⟩ := hp_25
  have F_28 : M_24 0 = .inr (7, [.ref (ad k 1), .ref (ad k 5), .ref (ad k 9), .ref (ad k 13), .ref (ad k 17), .ref (ad k 19), .ref (ad k 21), .ref (ad k 25)]) := by rw [hfr_26 0 (by omega)]; exact F_9
  have F_29 : M_24 5 = .inr (5, [.ref (ad k 6), .ref (ad k 8), .int (nI ds.length)]) := by rw [hfr_26 5 (by omega)]; exact F0_21
  have F_30 : M_24 8 = .inl (kI k, 8, .inl (fun zq => nI (g_20 zq))) := by rw [hfr_26 8 (by omega)]; exact F3_22
  have P_31 : TxAt k M_24 tx := P_10.fr (fun i h1 h2 => hfr_26 i (by omega))
  have P_32 : TrAt k M_24 9 (build cs ds).1 (build cs ds).2 := P_12.fr (fun i h1 h2 => hfr_26 i (by omega))
  have P_33 : MoAt k M_24 cs := P_13.fr (fun i h1 h2 => hfr_26 i (by omega))
  have P_34 : ElAt k M_24  := P_14.fr (fun i h1 h2 => hfr_26 i (by omega))
  have P_35 : StAt k M_24 21 cs2 ds2 := P_15.fr (fun i h1 h2 => hfr_26 i (by omega))
  have P_36 : TrAt k M_24 25 tr2 cf2 := P_16.fr (fun i h1 h2 => hfr_26 i (by omega))
  have P_37 : MeAt k M_24 (remF mem (cs, ds)) sl := P_8.fr (fun i h1 h2 => hfr_26 i (by omega))
  refine v_aload_n X 0 dX7_removeConstraint_27 rfl ?_
  have P_38 : StAt k M_24 5 (cs.eraseIdx j) ds := ⟨hN_17, P_27, hl_19, _, F_29, F_30, hg_23⟩
  refine v_callV X hCl hCR (c_X7_rebuild l k M_24 (cs.eraseIdx j) ds cs (build cs ds).1 (build cs ds).2 hN F_28 P_38 P_32 P_33 (ho2.er) hds) cls7 ⟨_, F_28⟩ (by omega) mo_X7_rebuild m_289 m_298 m_299 m_300 m_21 (by decide) rfl rfl (Nat.le_of_ble_eq_true rfl) ⟨rfl, rfl⟩ ⟨by decide, by decide⟩ dX7_removeConstraint_28 (vV_in (fun M_39 hp_40 => ?_))
  obtain ⟨P_42, P_43, P_44, hfr_41⟩ := hp_40
  have F_45 : M_39 0 = .inr (7, [.ref (ad k 1), .ref (ad k 5), .ref (ad k 9), .ref (ad k 13), .ref (ad k 17), .ref (ad k 19), .ref (ad k 21), .ref (ad k 25)]) := by rw [hfr_41 0 (by omega) (by omega)]; exact F_28
  have P_46 : TxAt k M_39 tx := P_31.fr (fun i h1 h2 => hfr_41 i (by omega) (by omega))
  have P_47 : ElAt k M_39  := P_34.fr (fun i h1 h2 => hfr_41 i (by omega) (by omega))
  have P_48 : StAt k M_39 21 cs2 ds2 := P_35.fr (fun i h1 h2 => hfr_41 i (by omega) (by omega))
  have P_49 : TrAt k M_39 25 tr2 cf2 := P_36.fr (fun i h1 h2 => hfr_41 i (by omega) (by omega))
  have P_50 : MeAt k M_39 (remF mem (cs, ds)) sl := P_37.fr (fun i h1 h2 => hfr_41 i (by omega) (by omega))
  refine v_aload_n X 0 dX7_removeConstraint_31 rfl ?_
  refine v_get X cls7 F_45 (by omega) 1 (by decide) m_251 rfl rfl dX7_removeConstraint_32 ?_
  obtain ⟨hN_51, hF_52, hl_53, g_54, F0_55, F3_56, hg_57⟩ := id P_42
  refine v_getN X cls5 F0_55 (by omega) 0 (by decide) nw_11 rfl rfl dX7_removeConstraint_35 ?_
  obtain ⟨hN_59, hl_60, f_58, F_61, F_62, hf_63⟩ := id hF_52
  refine v_getN X cls1 F_61 (by omega) 1 (by decide) nw_5 rfl rfl dX7_removeConstraint_38 ?_
  exact v_iret X rq ⟨by decide, by decide⟩ rfl dX7_removeConstraint_41 ⟨_, rfl, ⟨j, hj, rfl, by rw [List.length_eraseIdx_of_lt hj], ⟨hN, F_45, P_46, P_42, (by rw [(sNew_spec _ _).1]; exact P_43), P_50, P_44, P_47, ⟨_, _, P_48⟩, ⟨_, _, P_49⟩, hV.act ho2.er hds hld⟩⟩, (fun i hi => by rw [hfr_41 i (by omega) (by omega), hfr_26 i (by omega), hfr_7 i (by omega)])⟩
set_option maxHeartbeats 4000000 in
set_option maxRecDepth 100000 in
theorem c_X7_decide (l : Launch) (hst0 : l.stackTraces = false) (k : KX) (M : Mem) (cs ds : List Nat) (mem : List SD) (sl : Nat → Option SD) (tx : List Nat) (x : Int32) (hSol : SolAt k M cs ds mem sl tx) : CX l yX7_decide cX7_decide 2 ((some .int)) { frames := 6, cells := 1, slots := 6, locals := 135 } k [.ref (ad k 0), .int x] M (pI (fun r M' => (∃ d, d < 16 ∧ x = nI d ∧ (build cs ds).2 = none ∧ (tA (build cs ds).1).testBit (d / 2) = false ∧ r = nI (build cs (ds ++ [d])).1.length ∧ SolAt k M' cs (sNew cs (ds ++ [d])) (remF mem (cs, ds)) sl tx) ∧ Fr 0 93 M M')) (fun E M' => ((E = xIOB ∧ inL x 16 = false) ∨ (E = xISE ∧ ∃ d, d < 16 ∧ x = nI d ∧ ((build cs ds).2 ≠ none ∨ (tA (build cs ds).1).testBit (d / 2) = true))) ∧ SolAt k M' cs ds mem sl tx ∧ Fr 0 93 M M') := by
  refine CX.of (by decide) (Nat.le_of_ble_eq_true rfl) (fun C X hCl hCR rx => ?_)
  have rq := rx.q
  have hst : (C_l C).stackTraces = false := by rw [hCl]; exact hst0
  show V C k 2 (0, 0) M 0 [(0, .ref (ad k 0)), (1, .int x)] []
  obtain ⟨hN, F0, hTx, hS, hT, hMe, hMo, hEl, ⟨cs2, ds2, hS2⟩, ⟨tr2, cf2, hT2⟩, hV⟩ := id hSol
  have ho2 : csOK cs := hV.1.1
  have hds : ∀ d ∈ ds, d < 16 := hV.1.2.1
  have hlc : cs.length ≤ 24 := ho2.1
  have hld : ds.length ≤ 8 := hV.1.2.2
  have hok := cAt_ok ho2
  have hTL := hV.2.1
  refine v_iload_n X 1 dX7_decide_0 rfl ?_
  refine v_if_lt X 10 dX7_decide_1 (by decide) (fun c_1 => ?_) (fun c_1 => ?_)
  · exact v_throwS X rx hCR hst rfl (Or.inr (Or.inr rfl)) m_304 m_305 (List.mem_of_getElem? (i := 13) rfl) inE2 bad168 ot168 dX7_decide_10 dX7_decide_13 dX7_decide_14 dX7_decide_16 dX7_decide_19 (by decide) (Nat.le_of_ble_eq_true rfl) (by decide) (by decide) ⟨Or.inl ⟨rfl, by simp_all [inL, nI_0']⟩, hSol, Fr.rf⟩
  · refine v_iload_n X 1 dX7_decide_4 rfl ?_
    refine v_bipush X (v := nI 16) (by decide) dX7_decide_5 ?_
    refine v_icmp_lt X 20 dX7_decide_7 (by decide) (fun c_2 => ?_) (fun c_2 => ?_)
    · have hq : inL x 16 = true := by simp_all [inL, nI_0']
      obtain ⟨d, hd, rfl⟩ := inL_of (by omega) hq
      refine v_aload_n X 0 dX7_decide_20 rfl ?_
      refine v_get X cls7 F0 (by omega) 2 (by decide) m_254 rfl rfl dX7_decide_21 ?_
      obtain ⟨hN_3, hk_4, hc_5, o_6, lv_7, rs_8, F0_9, F1_10, F2_11, F3_12, ho_13, hv_14⟩ := id hT
      have hk_4_A := hk_4.A
      have hk_4_T := hk_4.T
      have hk_4_B := hk_4.B
      have hk_4_l := hk_4.le
      have hk_4_L := tL_le ((build cs ds).1)
      refine v_getN X cls6 F0_9 (by omega) 8 (by decide) nw_16 rfl rfl dX7_decide_24 ?_
      refine v_bipush X (v := (-9)) (by decide) dX7_decide_27 ?_
      refine v_icmp_eq X 42 dX7_decide_29 (by decide) (fun c_15 => ?_) (fun c_15 => ?_)
      · have hcf : (build cs ds).2 = none := by exact (oI_eq (fun n hn => by have := hT.2.2.1 n hn; omega)).mp c_15
        refine v_aload_n X 0 dX7_decide_42 rfl ?_
        refine v_get X cls7 F0 (by omega) 2 (by decide) m_254 rfl rfl dX7_decide_43 ?_
        refine v_iload_n X 1 dX7_decide_46 rfl ?_
        refine v_callS X hCl hCR (c_X7_variableOf l k M d (by omega)) mo_X7_variableOf m_206 m_355 m_209 m_21 (by decide) rfl rfl (Nat.le_of_ble_eq_true rfl) ⟨rfl, rfl⟩ ⟨by decide, by decide⟩ dX7_decide_47 (vP_in ?_)
        refine v_callV X hCl hCR (c_X6_isAssigned l k M 9 (build cs ds).1 (build cs ds).2 (d / 2) hT (by omega)) cls6 ⟨_, F0_9⟩ (by omega) mo_X6_isAssigned m_207 m_356 m_211 m_212 m_204 (by decide) rfl rfl (Nat.le_of_ble_eq_true rfl) ⟨rfl, rfl⟩ ⟨by decide, by decide⟩ dX7_decide_50 (vP_in ?_)
        refine v_ieqB X 66 dX7_decide_53 (by decide) (fun c_16 => ?_) (fun c_16 => ?_)
        · have hb := c_16
          have hl8 : ds.length < 8 := by have h1 := hT.2.1.lt (show d / 2 < 8 by omega) hb; have h2 := tL_le (build cs ds).1; omega
          have hd2 : ∀ y ∈ ds ++ [d], y < 16 := fun y hy => by rcases List.mem_append.mp hy with h | h; exact hds y h; rw [List.mem_singleton.mp h]; exact hd
          refine v_aload_n X 0 dX7_decide_66 rfl ?_
          refine v_get X cls7 F0 (by omega) 3 (by decide) m_257 rfl rfl dX7_decide_67 ?_
          refine v_aload_n X 0 dX7_decide_70 rfl ?_
          refine v_get X cls7 F0 (by omega) 1 (by decide) m_251 rfl rfl dX7_decide_71 ?_
          refine v_callV X hCl hCR (c_X3_remember l k M mem sl cs ds hMe hS) cls3 hMe.obj (by omega) mo_X3_remember m_151 m_325 m_326 m_327 m_148 (by decide) rfl rfl (Nat.le_of_ble_eq_true rfl) ⟨rfl, rfl⟩ ⟨by decide, by decide⟩ dX7_decide_74 (vV_in (fun M_17 hp_18 => ?_))
          obtain ⟨P_20, hfr_19⟩ := hp_18
          have F_21 : M_17 0 = .inr (7, [.ref (ad k 1), .ref (ad k 5), .ref (ad k 9), .ref (ad k 13), .ref (ad k 17), .ref (ad k 19), .ref (ad k 21), .ref (ad k 25)]) := by rw [hfr_19 0 (by omega)]; exact F0
          have F_22 : M_17 9 = .inr (6, [.ref (ad k 10), .ref (ad k 11), .ref (ad k 12), .int (nI (((build cs ds).1).length)), .int (nI (tA ((build cs ds).1))), .int (nI (tT ((build cs ds).1))), .int (nI (tL ((build cs ds).1))), .int (nI (tB ((build cs ds).1))), .int (oI ((build cs ds).2))]) := by rw [hfr_19 9 (by omega)]; exact F0_9
          have F_23 : M_17 10 = .inl (kI k, 8, .inl (fun zq => nI (o_6 zq))) := by rw [hfr_19 10 (by omega)]; exact F1_10
          have F_24 : M_17 11 = .inl (kI k, 8, .inl (fun zq => nI (lv_7 zq))) := by rw [hfr_19 11 (by omega)]; exact F2_11
          have F_25 : M_17 12 = .inl (kI k, 8, .inl (fun zq => oI (rs_8 zq))) := by rw [hfr_19 12 (by omega)]; exact F3_12
          have P_26 : TxAt k M_17 tx := hTx.fr (fun i h1 h2 => hfr_19 i (by omega))
          have P_27 : StAt k M_17 5 cs ds := hS.fr (fun i h1 h2 => hfr_19 i (by omega))
          have P_28 : TrAt k M_17 9 (build cs ds).1 (build cs ds).2 := hT.fr (fun i h1 h2 => hfr_19 i (by omega))
          have P_29 : MoAt k M_17 cs := hMo.fr (fun i h1 h2 => hfr_19 i (by omega))
          have P_30 : ElAt k M_17  := hEl.fr (fun i h1 h2 => hfr_19 i (by omega))
          have P_31 : StAt k M_17 21 cs2 ds2 := hS2.fr (fun i h1 h2 => hfr_19 i (by omega))
          have P_32 : TrAt k M_17 25 tr2 cf2 := hT2.fr (fun i h1 h2 => hfr_19 i (by omega))
          refine v_aload_n X 0 dX7_decide_77 rfl ?_
          refine v_get X cls7 F_21 (by omega) 1 (by decide) m_251 rfl rfl dX7_decide_78 ?_
          refine v_iload_n X 1 dX7_decide_81 rfl ?_
          refine v_callV X hCl hCR (c_X5_addDecision l k M_17 5 cs ds d P_27 hl8) cls5 P_27.obj (by omega) mo_X5_addDecision m_176 m_357 m_358 m_359 m_133 (by decide) rfl rfl (Nat.le_of_ble_eq_true rfl) ⟨rfl, rfl⟩ ⟨by decide, by decide⟩ dX7_decide_82 (vV_in (fun M_33 hp_34 => ?_))
          obtain ⟨P_36, hfr_35⟩ := hp_34
          have F_37 : M_33 0 = .inr (7, [.ref (ad k 1), .ref (ad k 5), .ref (ad k 9), .ref (ad k 13), .ref (ad k 17), .ref (ad k 19), .ref (ad k 21), .ref (ad k 25)]) := by rw [hfr_35 0 (by omega)]; exact F_21
          have F_38 : M_33 9 = .inr (6, [.ref (ad k 10), .ref (ad k 11), .ref (ad k 12), .int (nI (((build cs ds).1).length)), .int (nI (tA ((build cs ds).1))), .int (nI (tT ((build cs ds).1))), .int (nI (tL ((build cs ds).1))), .int (nI (tB ((build cs ds).1))), .int (oI ((build cs ds).2))]) := by rw [hfr_35 9 (by omega)]; exact F_22
          have F_39 : M_33 10 = .inl (kI k, 8, .inl (fun zq => nI (o_6 zq))) := by rw [hfr_35 10 (by omega)]; exact F_23
          have F_40 : M_33 11 = .inl (kI k, 8, .inl (fun zq => nI (lv_7 zq))) := by rw [hfr_35 11 (by omega)]; exact F_24
          have F_41 : M_33 12 = .inl (kI k, 8, .inl (fun zq => oI (rs_8 zq))) := by rw [hfr_35 12 (by omega)]; exact F_25
          have P_42 : TxAt k M_33 tx := P_26.fr (fun i h1 h2 => hfr_35 i (by omega))
          have P_43 : TrAt k M_33 9 (build cs ds).1 (build cs ds).2 := P_28.fr (fun i h1 h2 => hfr_35 i (by omega))
          have P_44 : MoAt k M_33 cs := P_29.fr (fun i h1 h2 => hfr_35 i (by omega))
          have P_45 : ElAt k M_33  := P_30.fr (fun i h1 h2 => hfr_35 i (by omega))
          have P_46 : StAt k M_33 21 cs2 ds2 := P_31.fr (fun i h1 h2 => hfr_35 i (by omega))
          have P_47 : TrAt k M_33 25 tr2 cf2 := P_32.fr (fun i h1 h2 => hfr_35 i (by omega))
          have P_48 : MeAt k M_33 (remF mem (cs, ds)) sl := P_20.fr (fun i h1 h2 => hfr_35 i (by omega))
          refine v_aload_n X 0 dX7_decide_85 rfl ?_
          refine v_callV X hCl hCR (c_X7_rebuild l k M_33 cs (ds ++ [d]) cs (build cs ds).1 (build cs ds).2 hN F_37 P_36 P_43 P_44 ho2 hd2) cls7 ⟨_, F_37⟩ (by omega) mo_X7_rebuild m_289 m_298 m_299 m_300 m_21 (by decide) rfl rfl (Nat.le_of_ble_eq_true rfl) ⟨rfl, rfl⟩ ⟨by decide, by decide⟩ dX7_decide_86 (vV_in (fun M_49 hp_50 => ?_))
          obtain ⟨P_52, P_53, P_54, hfr_51⟩ := hp_50
          have F_55 : M_49 0 = .inr (7, [.ref (ad k 1), .ref (ad k 5), .ref (ad k 9), .ref (ad k 13), .ref (ad k 17), .ref (ad k 19), .ref (ad k 21), .ref (ad k 25)]) := by rw [hfr_51 0 (by omega) (by omega)]; exact F_37
          have P_56 : TxAt k M_49 tx := P_42.fr (fun i h1 h2 => hfr_51 i (by omega) (by omega))
          have P_57 : ElAt k M_49  := P_45.fr (fun i h1 h2 => hfr_51 i (by omega) (by omega))
          have P_58 : StAt k M_49 21 cs2 ds2 := P_46.fr (fun i h1 h2 => hfr_51 i (by omega) (by omega))
          have P_59 : TrAt k M_49 25 tr2 cf2 := P_47.fr (fun i h1 h2 => hfr_51 i (by omega) (by omega))
          have P_60 : MeAt k M_49 (remF mem (cs, ds)) sl := P_48.fr (fun i h1 h2 => hfr_51 i (by omega) (by omega))
          refine v_aload_n X 0 dX7_decide_89 rfl ?_
          refine v_get X cls7 F_55 (by omega) 2 (by decide) m_254 rfl rfl dX7_decide_90 ?_
          obtain ⟨hN_61, hk_62, hc_63, o_64, lv_65, rs_66, F0_67, F1_68, F2_69, F3_70, ho_71, hv_72⟩ := id P_53
          have hk_62_A := hk_62.A
          have hk_62_T := hk_62.T
          have hk_62_B := hk_62.B
          have hk_62_l := hk_62.le
          have hk_62_L := tL_le ((build cs (ds ++ [d])).1)
          refine v_getN X cls6 F0_67 (by omega) 3 (by decide) nw_15 rfl rfl dX7_decide_93 ?_
          exact v_iret X rq ⟨by decide, by decide⟩ rfl dX7_decide_96 ⟨_, rfl, ⟨d, hd, rfl, hcf, hb, rfl, ⟨hN, F_55, P_56, P_52, (by rw [(sNew_spec _ _).1]; exact P_53), P_60, P_54, P_57, ⟨_, _, P_58⟩, ⟨_, _, P_59⟩, hV.act ho2 hd2 (by simp; omega)⟩⟩, (fun i hi => by rw [hfr_51 i (by omega) (by omega), hfr_35 i (by omega), hfr_19 i (by omega)])⟩
        · have hb := c_16
          exact v_throwS X rx hCR hst rfl (Or.inr (Or.inl rfl)) m_276 m_277 (List.mem_of_getElem? (i := 15) rfl) inE1 bad72 ot72 dX7_decide_56 dX7_decide_59 dX7_decide_60 dX7_decide_62 dX7_decide_65 (by decide) (Nat.le_of_ble_eq_true rfl) (by decide) (by decide) ⟨Or.inr ⟨rfl, d, hd, rfl, Or.inr hb⟩, hSol, Fr.rf⟩
      · have hcf : ¬ (build cs ds).2 = none := by intro w; exact c_15 (by rw [w]; rfl)
        exact v_throwS X rx hCR hst rfl (Or.inr (Or.inl rfl)) m_276 m_277 (List.mem_of_getElem? (i := 14) rfl) inE1 bad72 ot72 dX7_decide_32 dX7_decide_35 dX7_decide_36 dX7_decide_38 dX7_decide_41 (by decide) (Nat.le_of_ble_eq_true rfl) (by decide) (by decide) ⟨Or.inr ⟨rfl, d, hd, rfl, Or.inl hcf⟩, hSol, Fr.rf⟩
    · exact v_throwS X rx hCR hst rfl (Or.inr (Or.inr rfl)) m_304 m_305 (List.mem_of_getElem? (i := 13) rfl) inE2 bad168 ot168 dX7_decide_10 dX7_decide_13 dX7_decide_14 dX7_decide_16 dX7_decide_19 (by decide) (Nat.le_of_ble_eq_true rfl) (by decide) (by decide) ⟨Or.inl ⟨rfl, by simp_all [inL, nI_0']⟩, hSol, Fr.rf⟩
set_option maxHeartbeats 4000000 in
set_option maxRecDepth 100000 in
theorem c_X7_backtrack (l : Launch) (hst0 : l.stackTraces = false) (k : KX) (M : Mem) (cs ds : List Nat) (mem : List SD) (sl : Nat → Option SD) (tx : List Nat) (x : Int32) (hSol : SolAt k M cs ds mem sl tx) : CX l yX7_backtrack cX7_backtrack 2 ((some .int)) { frames := 6, cells := 1, slots := 6, locals := 135 } k [.ref (ad k 0), .int x] M (pI (fun r M' => (∃ n, n ≤ ds.length ∧ x = nI n ∧ r = nI (build cs (ds.take n)).1.length ∧ SolAt k M' cs (sNew cs (ds.take n)) (remF mem (cs, ds)) sl tx) ∧ Fr 0 93 M M')) (fun E M' => (E = xIAE ∧ inR x ds.length = false) ∧ SolAt k M' cs ds mem sl tx ∧ Fr 0 93 M M') := by
  refine CX.of (by decide) (Nat.le_of_ble_eq_true rfl) (fun C X hCl hCR rx => ?_)
  have rq := rx.q
  have hst : (C_l C).stackTraces = false := by rw [hCl]; exact hst0
  show V C k 2 (0, 0) M 0 [(0, .ref (ad k 0)), (1, .int x)] []
  obtain ⟨hN, F0, hTx, hS, hT, hMe, hMo, hEl, ⟨cs2, ds2, hS2⟩, ⟨tr2, cf2, hT2⟩, hV⟩ := id hSol
  have ho2 : csOK cs := hV.1.1
  have hds : ∀ d ∈ ds, d < 16 := hV.1.2.1
  have hlc : cs.length ≤ 24 := ho2.1
  have hld : ds.length ≤ 8 := hV.1.2.2
  have hok := cAt_ok ho2
  have hTL := hV.2.1
  refine v_iload_n X 1 dX7_backtrack_0 rfl ?_
  refine v_if_lt X 15 dX7_backtrack_1 (by decide) (fun c_1 => ?_) (fun c_1 => ?_)
  · exact v_throwS X rx hCR hst rfl (Or.inl rfl) m_274 m_275 (List.mem_of_getElem? (i := 16) rfl) inE0 bad61 ot61 dX7_backtrack_15 dX7_backtrack_18 dX7_backtrack_19 dX7_backtrack_21 dX7_backtrack_24 (by decide) (Nat.le_of_ble_eq_true rfl) (by decide) (by decide) ⟨⟨rfl, by simp only [inR]; simp_all [nI_0', Int32.not_lt]⟩, hSol, Fr.rf⟩
  · refine v_iload_n X 1 dX7_backtrack_4 rfl ?_
    refine v_aload_n X 0 dX7_backtrack_5 rfl ?_
    refine v_get X cls7 F0 (by omega) 1 (by decide) m_251 rfl rfl dX7_backtrack_6 ?_
    obtain ⟨hN_2, hF_3, hl_4, g_5, F0_6, F3_7, hg_8⟩ := id hS
    refine v_getN X cls5 F0_6 (by omega) 2 (by decide) nw_13 rfl rfl dX7_backtrack_9 ?_
    refine v_icmp_le X 25 dX7_backtrack_12 (by decide) (fun c_9 => ?_) (fun c_9 => ?_)
    · have hq : inR x ds.length = true := by simp_all [inR, nI_0', Int32.not_lt]
      obtain ⟨n, hn, rfl⟩ := inR_of (by omega) hq
      have hd2 : ∀ y ∈ ds.take n, y < 16 := fun y hy => hds y (List.mem_of_mem_take hy)
      refine v_aload_n X 0 dX7_backtrack_25 rfl ?_
      refine v_get X cls7 F0 (by omega) 3 (by decide) m_257 rfl rfl dX7_backtrack_26 ?_
      refine v_aload_n X 0 dX7_backtrack_29 rfl ?_
      refine v_get X cls7 F0 (by omega) 1 (by decide) m_251 rfl rfl dX7_backtrack_30 ?_
      refine v_callV X hCl hCR (c_X3_remember l k M mem sl cs ds hMe hS) cls3 hMe.obj (by omega) mo_X3_remember m_151 m_325 m_326 m_327 m_148 (by decide) rfl rfl (Nat.le_of_ble_eq_true rfl) ⟨rfl, rfl⟩ ⟨by decide, by decide⟩ dX7_backtrack_33 (vV_in (fun M_10 hp_11 => ?_))
      obtain ⟨P_13, hfr_12⟩ := hp_11
      have F_14 : M_10 0 = .inr (7, [.ref (ad k 1), .ref (ad k 5), .ref (ad k 9), .ref (ad k 13), .ref (ad k 17), .ref (ad k 19), .ref (ad k 21), .ref (ad k 25)]) := by rw [hfr_12 0 (by omega)]; exact F0
      have F_15 : M_10 5 = .inr (5, [.ref (ad k 6), .ref (ad k 8), .int (nI ds.length)]) := by rw [hfr_12 5 (by omega)]; exact F0_6
      have F_16 : M_10 8 = .inl (kI k, 8, .inl (fun zq => nI (g_5 zq))) := by rw [hfr_12 8 (by omega)]; exact F3_7
      have P_17 : TxAt k M_10 tx := hTx.fr (fun i h1 h2 => hfr_12 i (by omega))
      have P_18 : StAt k M_10 5 cs ds := hS.fr (fun i h1 h2 => hfr_12 i (by omega))
      have P_19 : TrAt k M_10 9 (build cs ds).1 (build cs ds).2 := hT.fr (fun i h1 h2 => hfr_12 i (by omega))
      have P_20 : MoAt k M_10 cs := hMo.fr (fun i h1 h2 => hfr_12 i (by omega))
      have P_21 : ElAt k M_10  := hEl.fr (fun i h1 h2 => hfr_12 i (by omega))
      have P_22 : StAt k M_10 21 cs2 ds2 := hS2.fr (fun i h1 h2 => hfr_12 i (by omega))
      have P_23 : TrAt k M_10 25 tr2 cf2 := hT2.fr (fun i h1 h2 => hfr_12 i (by omega))
      have P_24 : FmAt k M_10 6 cs := hF_3.fr (fun i h1 h2 => hfr_12 i (by omega))
      refine v_aload_n X 0 dX7_backtrack_36 rfl ?_
      refine v_get X cls7 F_14 (by omega) 1 (by decide) m_251 rfl rfl dX7_backtrack_37 ?_
      refine v_iload_n X 1 dX7_backtrack_40 rfl ?_
      refine v_callV X hCl hCR (c_X5_keepDecisions l k M_10 5 cs ds n P_18 (by omega)) cls5 ⟨_, F_15⟩ (by omega) mo_X5_keepDecisions m_177 m_291 m_229 m_230 m_133 (by decide) rfl rfl (Nat.le_of_ble_eq_true rfl) ⟨rfl, rfl⟩ ⟨by decide, by decide⟩ dX7_backtrack_41 (vV_in (fun M_25 hp_26 => ?_))
      obtain ⟨P_28, hfr_27⟩ := hp_26
      have F_29 : M_25 0 = .inr (7, [.ref (ad k 1), .ref (ad k 5), .ref (ad k 9), .ref (ad k 13), .ref (ad k 17), .ref (ad k 19), .ref (ad k 21), .ref (ad k 25)]) := by rw [hfr_27 0 (by omega)]; exact F_14
      have P_30 : TxAt k M_25 tx := P_17.fr (fun i h1 h2 => hfr_27 i (by omega))
      have P_31 : TrAt k M_25 9 (build cs ds).1 (build cs ds).2 := P_19.fr (fun i h1 h2 => hfr_27 i (by omega))
      have P_32 : MoAt k M_25 cs := P_20.fr (fun i h1 h2 => hfr_27 i (by omega))
      have P_33 : ElAt k M_25  := P_21.fr (fun i h1 h2 => hfr_27 i (by omega))
      have P_34 : StAt k M_25 21 cs2 ds2 := P_22.fr (fun i h1 h2 => hfr_27 i (by omega))
      have P_35 : TrAt k M_25 25 tr2 cf2 := P_23.fr (fun i h1 h2 => hfr_27 i (by omega))
      have P_36 : MeAt k M_25 (remF mem (cs, ds)) sl := P_13.fr (fun i h1 h2 => hfr_27 i (by omega))
      refine v_aload_n X 0 dX7_backtrack_44 rfl ?_
      refine v_callV X hCl hCR (c_X7_rebuild l k M_25 cs (ds.take n) cs (build cs ds).1 (build cs ds).2 hN F_29 P_28 P_31 P_32 ho2 hd2) cls7 ⟨_, F_29⟩ (by omega) mo_X7_rebuild m_289 m_298 m_299 m_300 m_21 (by decide) rfl rfl (Nat.le_of_ble_eq_true rfl) ⟨rfl, rfl⟩ ⟨by decide, by decide⟩ dX7_backtrack_45 (vV_in (fun M_37 hp_38 => ?_))
      obtain ⟨P_40, P_41, P_42, hfr_39⟩ := hp_38
      have F_43 : M_37 0 = .inr (7, [.ref (ad k 1), .ref (ad k 5), .ref (ad k 9), .ref (ad k 13), .ref (ad k 17), .ref (ad k 19), .ref (ad k 21), .ref (ad k 25)]) := by rw [hfr_39 0 (by omega) (by omega)]; exact F_29
      have P_44 : TxAt k M_37 tx := P_30.fr (fun i h1 h2 => hfr_39 i (by omega) (by omega))
      have P_45 : ElAt k M_37  := P_33.fr (fun i h1 h2 => hfr_39 i (by omega) (by omega))
      have P_46 : StAt k M_37 21 cs2 ds2 := P_34.fr (fun i h1 h2 => hfr_39 i (by omega) (by omega))
      have P_47 : TrAt k M_37 25 tr2 cf2 := P_35.fr (fun i h1 h2 => hfr_39 i (by omega) (by omega))
      have P_48 : MeAt k M_37 (remF mem (cs, ds)) sl := P_36.fr (fun i h1 h2 => hfr_39 i (by omega) (by omega))
      refine v_aload_n X 0 dX7_backtrack_48 rfl ?_
      refine v_get X cls7 F_43 (by omega) 2 (by decide) m_254 rfl rfl dX7_backtrack_49 ?_
      obtain ⟨hN_49, hk_50, hc_51, o_52, lv_53, rs_54, F0_55, F1_56, F2_57, F3_58, ho_59, hv_60⟩ := id P_41
      have hk_50_A := hk_50.A
      have hk_50_T := hk_50.T
      have hk_50_B := hk_50.B
      have hk_50_l := hk_50.le
      have hk_50_L := tL_le ((build cs (ds.take n)).1)
      refine v_getN X cls6 F0_55 (by omega) 3 (by decide) nw_15 rfl rfl dX7_backtrack_52 ?_
      exact v_iret X rq ⟨by decide, by decide⟩ rfl dX7_backtrack_55 ⟨_, rfl, ⟨n, hn, rfl, rfl, ⟨hN, F_43, P_44, P_40, (by rw [(sNew_spec _ _).1]; exact P_41), P_48, P_42, P_45, ⟨_, _, P_46⟩, ⟨_, _, P_47⟩, hV.act ho2 hd2 (by rw [List.length_take]; omega)⟩⟩, (fun i hi => by rw [hfr_39 i (by omega) (by omega), hfr_27 i (by omega), hfr_12 i (by omega)])⟩
    · exact v_throwS X rx hCR hst rfl (Or.inl rfl) m_274 m_275 (List.mem_of_getElem? (i := 16) rfl) inE0 bad61 ot61 dX7_backtrack_15 dX7_backtrack_18 dX7_backtrack_19 dX7_backtrack_21 dX7_backtrack_24 (by decide) (Nat.le_of_ble_eq_true rfl) (by decide) (by decide) ⟨⟨rfl, by simp only [inR]; simp_all [nI_0', Int32.not_lt]⟩, hSol, Fr.rf⟩
set_option maxHeartbeats 4000000 in
set_option maxRecDepth 100000 in
theorem c_X7_undo (l : Launch) (hst0 : l.stackTraces = false) (k : KX) (M : Mem) (cs ds : List Nat) (mem : List SD) (sl : Nat → Option SD) (tx : List Nat) (hSol : SolAt k M cs ds mem sl tx) : CX l yX7_undo cX7_undo 1 ((some .int)) { frames := 6, cells := 1, slots := 6, locals := 135 } k [.ref (ad k 0)] M (pI (fun r M' => (∃ (ini : List SD) (sd : SD), mem = ini ++ [sd] ∧ r = nI ini.length ∧ SolAt k M' sd.1 (sNew sd.1 sd.2) ini sl tx) ∧ Fr 0 93 M M')) (fun E M' => (E = xISE ∧ mem = []) ∧ SolAt k M' cs ds mem sl tx ∧ Fr 0 93 M M') := by
  refine CX.of (by decide) (Nat.le_of_ble_eq_true rfl) (fun C X hCl hCR rx => ?_)
  have rq := rx.q
  have hst : (C_l C).stackTraces = false := by rw [hCl]; exact hst0
  show V C k 1 (0, 0) M 0 [(0, .ref (ad k 0))] []
  obtain ⟨hN, F0, hTx, hS, hT, hMe, hMo, hEl, ⟨cs2, ds2, hS2⟩, ⟨tr2, cf2, hT2⟩, hV⟩ := id hSol
  have ho2 : csOK cs := hV.1.1
  have hds : ∀ d ∈ ds, d < 16 := hV.1.2.1
  have hlc : cs.length ≤ 24 := ho2.1
  have hld : ds.length ≤ 8 := hV.1.2.2
  have hok := cAt_ok ho2
  have hTL := hV.2.1
  have hml := hMe.2.1
  refine v_aload_n X 0 dX7_undo_0 rfl ?_
  refine v_get X cls7 F0 (by omega) 3 (by decide) m_257 rfl rfl dX7_undo_1 ?_
  obtain ⟨p_1, g_2, g2_3, fl_4, c_5, c2_6, hm_7⟩ := MeAt.op hMe
  obtain ⟨hN_8, hl_9, hp_10, hi_11, F0_12, F1_13, F2_14, F3_15, hg_16, hc_17, hg2_18, hs_19⟩ := id hm_7
  refine v_getN X cls3 F0_12 (by omega) 3 (by decide) nw_18 rfl rfl dX7_undo_4 ?_
  refine v_ineN X 20 (by omega) dX7_undo_7 (by decide) (fun c_20 => ?_) (fun c_20 => ?_)
  · have hb := c_20
    obtain ⟨ini, sd, hini⟩ : ∃ (ini : List SD) (sd : SD), mem = ini ++ [sd] := ⟨mem.dropLast, mem.getLast (fun w => by rw [w] at hb; exact hb rfl), (List.dropLast_concat_getLast _).symm⟩
    have hsd : sOK sd := hV.2.2.1 sd (by rw [hini]; simp)
    refine v_aload_n X 0 dX7_undo_20 rfl ?_
    refine v_get X cls7 F0 (by omega) 3 (by decide) m_257 rfl rfl dX7_undo_21 ?_
    refine v_aload_n X 0 dX7_undo_24 rfl ?_
    refine v_get X cls7 F0 (by omega) 1 (by decide) m_251 rfl rfl dX7_undo_25 ?_
    refine v_callV X hCl hCR (c_X3_takeBack l k M mem sl cs ds ini sd hMe hS hini) cls3 ⟨_, F0_12⟩ (by omega) mo_X3_takeBack m_152 m_379 m_380 m_381 m_148 (by decide) rfl rfl (Nat.le_of_ble_eq_true rfl) ⟨rfl, rfl⟩ ⟨by decide, by decide⟩ dX7_undo_28 (vV_in (fun M_21 hp_22 => ?_))
    obtain ⟨P_24, P_25, hfr_23⟩ := hp_22
    have F_26 : M_21 0 = .inr (7, [.ref (ad k 1), .ref (ad k 5), .ref (ad k 9), .ref (ad k 13), .ref (ad k 17), .ref (ad k 19), .ref (ad k 21), .ref (ad k 25)]) := by rw [hfr_23 0 (by omega) (by omega)]; exact F0
    have P_27 : TxAt k M_21 tx := hTx.fr (fun i h1 h2 => hfr_23 i (by omega) (by omega))
    have P_28 : TrAt k M_21 9 (build cs ds).1 (build cs ds).2 := hT.fr (fun i h1 h2 => hfr_23 i (by omega) (by omega))
    have P_29 : MoAt k M_21 cs := hMo.fr (fun i h1 h2 => hfr_23 i (by omega) (by omega))
    have P_30 : ElAt k M_21  := hEl.fr (fun i h1 h2 => hfr_23 i (by omega) (by omega))
    have P_31 : StAt k M_21 21 cs2 ds2 := hS2.fr (fun i h1 h2 => hfr_23 i (by omega) (by omega))
    have P_32 : TrAt k M_21 25 tr2 cf2 := hT2.fr (fun i h1 h2 => hfr_23 i (by omega) (by omega))
    refine v_aload_n X 0 dX7_undo_31 rfl ?_
    refine v_callV X hCl hCR (c_X7_rebuild l k M_21 sd.1 sd.2 cs (build cs ds).1 (build cs ds).2 hN F_26 P_25 P_28 P_29 hsd.1 hsd.2.1) cls7 ⟨_, F_26⟩ (by omega) mo_X7_rebuild m_289 m_298 m_299 m_300 m_21 (by decide) rfl rfl (Nat.le_of_ble_eq_true rfl) ⟨rfl, rfl⟩ ⟨by decide, by decide⟩ dX7_undo_32 (vV_in (fun M_33 hp_34 => ?_))
    obtain ⟨P_36, P_37, P_38, hfr_35⟩ := hp_34
    have F_39 : M_33 0 = .inr (7, [.ref (ad k 1), .ref (ad k 5), .ref (ad k 9), .ref (ad k 13), .ref (ad k 17), .ref (ad k 19), .ref (ad k 21), .ref (ad k 25)]) := by rw [hfr_35 0 (by omega) (by omega)]; exact F_26
    have P_40 : TxAt k M_33 tx := P_27.fr (fun i h1 h2 => hfr_35 i (by omega) (by omega))
    have P_41 : ElAt k M_33  := P_30.fr (fun i h1 h2 => hfr_35 i (by omega) (by omega))
    have P_42 : StAt k M_33 21 cs2 ds2 := P_31.fr (fun i h1 h2 => hfr_35 i (by omega) (by omega))
    have P_43 : TrAt k M_33 25 tr2 cf2 := P_32.fr (fun i h1 h2 => hfr_35 i (by omega) (by omega))
    have P_44 : MeAt k M_33 ini sl := P_24.fr (fun i h1 h2 => hfr_35 i (by omega) (by omega))
    refine v_aload_n X 0 dX7_undo_35 rfl ?_
    refine v_get X cls7 F_39 (by omega) 3 (by decide) m_257 rfl rfl dX7_undo_36 ?_
    obtain ⟨p_45, g_46, g2_47, fl_48, c_49, c2_50, hm_51⟩ := MeAt.op P_44
    obtain ⟨hN_52, hl_53, hp_54, hi_55, F0_56, F1_57, F2_58, F3_59, hg_60, hc_61, hg2_62, hs_63⟩ := id hm_51
    refine v_getN X cls3 F0_56 (by omega) 3 (by decide) nw_18 rfl rfl dX7_undo_39 ?_
    exact v_iret X rq ⟨by decide, by decide⟩ rfl dX7_undo_42 ⟨_, rfl, ⟨ini, sd, hini, rfl, ⟨hN, F_39, P_40, P_36, (by rw [(sNew_spec _ _).1]; exact P_37), P_44, P_38, P_41, ⟨_, _, P_42⟩, ⟨_, _, P_43⟩, hV.new hsd.1 hsd.2.1 hsd.2.2 (fun y hy => hV.2.2.1 y (by rw [hini]; simp [hy])) hV.2.2.2⟩⟩, (fun i hi => by rw [hfr_35 i (by omega) (by omega), hfr_23 i (by omega) (by omega)])⟩
  · have hb := c_20
    exact v_throwS X rx hCR hst rfl (Or.inr (Or.inl rfl)) m_276 m_277 (List.mem_of_getElem? (i := 18) rfl) inE1 bad72 ot72 dX7_undo_10 dX7_undo_13 dX7_undo_14 dX7_undo_16 dX7_undo_19 (by decide) (Nat.le_of_ble_eq_true rfl) (by decide) (by decide) ⟨⟨rfl, List.eq_nil_of_length_eq_zero hb⟩, hSol, Fr.rf⟩
set_option maxHeartbeats 4000000 in
set_option maxRecDepth 100000 in
theorem c_X7_save (l : Launch) (hst0 : l.stackTraces = false) (k : KX) (M : Mem) (cs ds : List Nat) (mem : List SD) (sl : Nat → Option SD) (tx : List Nat) (x : Int32) (hSol : SolAt k M cs ds mem sl tx) : CX l yX7_save cX7_save 2 ((some .int)) { frames := 7, cells := 1, slots := 6, locals := 110 } k [.ref (ad k 0), .int x] M (pI (fun r M' => (∃ j, j < 2 ∧ x = nI j ∧ r = nI cs.length ∧ SolAt k M' cs ds mem (va_up sl j (some (cs, ds))) tx) ∧ Fr 0 93 M M')) (fun E M' => (E = xIOB ∧ inL x 2 = false) ∧ SolAt k M' cs ds mem sl tx ∧ Fr 0 93 M M') := by
  refine CX.of (by decide) (Nat.le_of_ble_eq_true rfl) (fun C X hCl hCR rx => ?_)
  have rq := rx.q
  have hst : (C_l C).stackTraces = false := by rw [hCl]; exact hst0
  show V C k 2 (0, 0) M 0 [(0, .ref (ad k 0)), (1, .int x)] []
  obtain ⟨hN, F0, hTx, hS, hT, hMe, hMo, hEl, ⟨cs2, ds2, hS2⟩, ⟨tr2, cf2, hT2⟩, hV⟩ := id hSol
  have ho2 : csOK cs := hV.1.1
  have hds : ∀ d ∈ ds, d < 16 := hV.1.2.1
  have hlc : cs.length ≤ 24 := ho2.1
  have hld : ds.length ≤ 8 := hV.1.2.2
  have hok := cAt_ok ho2
  have hTL := hV.2.1
  refine v_iload_n X 1 dX7_save_0 rfl ?_
  refine vx_callS' X rx.2.1 hCl hCR (c_X7_requireSlot l hst0 k M x) mo_X7_requireSlot m_429 m_430 m_431 m_21 (by decide) rfl rfl (Nat.le_of_ble_eq_true rfl) ⟨by decide, by decide⟩ dX7_save_1 (vV_in (fun M_1 hp_2 => ?_)) (fun E M_4 hx => v_out X rx ⟨by decide, by decide⟩ (⟨⟨hx.1, hx.2.1⟩, (by obtain ⟨-, -, rfl⟩ := hx; exact hSol), (by obtain ⟨-, -, rfl⟩ := hx; exact Fr.rf)⟩))
  obtain ⟨rfl, hq_3⟩ := hp_2
  have hq := hq_3
  obtain ⟨j, hj, rfl⟩ := inL_of (by omega) hq
  refine v_aload_n X 0 dX7_save_4 rfl ?_
  refine v_get X cls7 F0 (by omega) 3 (by decide) m_257 rfl rfl dX7_save_5 ?_
  refine v_iload_n X 1 dX7_save_8 rfl ?_
  refine v_aload_n X 0 dX7_save_9 rfl ?_
  refine v_get X cls7 F0 (by omega) 1 (by decide) m_251 rfl rfl dX7_save_10 ?_
  refine v_callV X hCl hCR (c_X3_fillSlot l k M mem sl cs ds j hMe hS (by omega)) cls3 hMe.obj (by omega) mo_X3_fillSlot m_155 m_432 m_433 m_434 m_148 (by decide) rfl rfl (Nat.le_of_ble_eq_true rfl) ⟨rfl, rfl⟩ ⟨by decide, by decide⟩ dX7_save_13 (vV_in (fun M_5 hp_6 => ?_))
  obtain ⟨P_8, hfr_7⟩ := hp_6
  have F_9 : M_5 0 = .inr (7, [.ref (ad k 1), .ref (ad k 5), .ref (ad k 9), .ref (ad k 13), .ref (ad k 17), .ref (ad k 19), .ref (ad k 21), .ref (ad k 25)]) := by rw [hfr_7 0 (by omega)]; exact F0
  have P_10 : TxAt k M_5 tx := hTx.fr (fun i h1 h2 => hfr_7 i (by omega))
  have P_11 : StAt k M_5 5 cs ds := hS.fr (fun i h1 h2 => hfr_7 i (by omega))
  have P_12 : TrAt k M_5 9 (build cs ds).1 (build cs ds).2 := hT.fr (fun i h1 h2 => hfr_7 i (by omega))
  have P_13 : MoAt k M_5 cs := hMo.fr (fun i h1 h2 => hfr_7 i (by omega))
  have P_14 : ElAt k M_5  := hEl.fr (fun i h1 h2 => hfr_7 i (by omega))
  have P_15 : StAt k M_5 21 cs2 ds2 := hS2.fr (fun i h1 h2 => hfr_7 i (by omega))
  have P_16 : TrAt k M_5 25 tr2 cf2 := hT2.fr (fun i h1 h2 => hfr_7 i (by omega))
  refine v_aload_n X 0 dX7_save_16 rfl ?_
  refine v_get X cls7 F_9 (by omega) 1 (by decide) m_251 rfl rfl dX7_save_17 ?_
  obtain ⟨hN_17, hF_18, hl_19, g_20, F0_21, F3_22, hg_23⟩ := id P_11
  refine v_getN X cls5 F0_21 (by omega) 0 (by decide) nw_11 rfl rfl dX7_save_20 ?_
  obtain ⟨hN_25, hl_26, f_24, F_27, F_28, hf_29⟩ := id hF_18
  refine v_getN X cls1 F_27 (by omega) 1 (by decide) nw_5 rfl rfl dX7_save_23 ?_
  exact v_iret X rq ⟨by decide, by decide⟩ rfl dX7_save_26 ⟨_, rfl, ⟨j, hj, rfl, rfl, ⟨hN, F_9, P_10, P_11, P_12, P_8, P_13, P_14, ⟨_, _, P_15⟩, ⟨_, _, P_16⟩, ⟨hV.1, hV.2.1, hV.2.2.1, fun i s h => by by_cases e : i = j; (rw [e, up_s] at h; rw [← Option.some.inj h]; exact hV.1); (rw [up_n _ _ e] at h; exact hV.2.2.2 i s h)⟩⟩⟩, (fun i hi => by rw [hfr_7 i (by omega)])⟩
set_option maxHeartbeats 4000000 in
set_option maxRecDepth 100000 in
theorem c_X7_restore (l : Launch) (hst0 : l.stackTraces = false) (k : KX) (M : Mem) (cs ds : List Nat) (mem : List SD) (sl : Nat → Option SD) (tx : List Nat) (x : Int32) (hSol : SolAt k M cs ds mem sl tx) : CX l yX7_restore cX7_restore 2 ((some .int)) { frames := 7, cells := 2, slots := 12, locals := 135 } k [.ref (ad k 0), .int x] M (pI (fun r M' => (∃ (j : Nat) (sd : SD), j < 2 ∧ x = nI j ∧ sl j = some sd ∧ r = nI sd.1.length ∧ SolAt k M' sd.1 (sNew sd.1 sd.2) ([]) sl tx) ∧ Fr 0 93 M M')) (fun E M' => ((E = xIOB ∧ inL x 2 = false) ∨ (E = xISE ∧ ∃ j, j < 2 ∧ x = nI j ∧ sl j = none)) ∧ SolAt k M' cs ds mem sl tx ∧ Fr 0 93 M M') := by
  refine CX.of (by decide) (Nat.le_of_ble_eq_true rfl) (fun C X hCl hCR rx => ?_)
  have rq := rx.q
  have hst : (C_l C).stackTraces = false := by rw [hCl]; exact hst0
  show V C k 2 (0, 0) M 0 [(0, .ref (ad k 0)), (1, .int x)] []
  obtain ⟨hN, F0, hTx, hS, hT, hMe, hMo, hEl, ⟨cs2, ds2, hS2⟩, ⟨tr2, cf2, hT2⟩, hV⟩ := id hSol
  have ho2 : csOK cs := hV.1.1
  have hds : ∀ d ∈ ds, d < 16 := hV.1.2.1
  have hlc : cs.length ≤ 24 := ho2.1
  have hld : ds.length ≤ 8 := hV.1.2.2
  have hok := cAt_ok ho2
  have hTL := hV.2.1
  refine v_iload_n X 1 dX7_restore_0 rfl ?_
  refine vx_callS' X rx.2.1 hCl hCR (c_X7_requireSlot l hst0 k M x) mo_X7_requireSlot m_429 m_430 m_431 m_21 (by decide) rfl rfl (Nat.le_of_ble_eq_true rfl) ⟨by decide, by decide⟩ dX7_restore_1 (vV_in (fun M_1 hp_2 => ?_)) (fun E M_4 hx => v_out X rx ⟨by decide, by decide⟩ (⟨Or.inl ⟨hx.1, hx.2.1⟩, (by obtain ⟨-, -, rfl⟩ := hx; exact hSol), (by obtain ⟨-, -, rfl⟩ := hx; exact Fr.rf)⟩))
  obtain ⟨rfl, hq_3⟩ := hp_2
  have hq := hq_3
  obtain ⟨j, hj, rfl⟩ := inL_of (by omega) hq
  refine v_aload_n X 0 dX7_restore_4 rfl ?_
  refine v_get X cls7 F0 (by omega) 3 (by decide) m_257 rfl rfl dX7_restore_5 ?_
  refine v_iload_n X 1 dX7_restore_8 rfl ?_
  refine v_callV X hCl hCR (c_X3_isFilled l k M mem sl j hMe (by omega)) cls3 hMe.obj (by omega) mo_X3_isFilled m_154 m_436 m_157 m_158 m_148 (by decide) rfl rfl (Nat.le_of_ble_eq_true rfl) ⟨rfl, rfl⟩ ⟨by decide, by decide⟩ dX7_restore_9 (vP_in ?_)
  refine v_ineB X 26 dX7_restore_12 (by decide) (fun c_5 => ?_) (fun c_5 => ?_)
  · have hb := c_5
    obtain ⟨sd, hsd⟩ := Option.isSome_iff_exists.mp hb
    have hso := hV.2.2.2 j sd hsd
    refine v_aload_n X 0 dX7_restore_26 rfl ?_
    refine v_get X cls7 F0 (by omega) 3 (by decide) m_257 rfl rfl dX7_restore_27 ?_
    refine v_iload_n X 1 dX7_restore_30 rfl ?_
    refine v_aload_n X 0 dX7_restore_31 rfl ?_
    refine v_get X cls7 F0 (by omega) 1 (by decide) m_251 rfl rfl dX7_restore_32 ?_
    refine v_callV X hCl hCR (c_X3_copySlot l k M mem sl cs ds j sd hMe hS (by omega) hsd) cls3 hMe.obj (by omega) mo_X3_copySlot m_159 m_437 m_438 m_439 m_148 (by decide) rfl rfl (Nat.le_of_ble_eq_true rfl) ⟨rfl, rfl⟩ ⟨by decide, by decide⟩ dX7_restore_35 (vV_in (fun M_6 hp_7 => ?_))
    obtain ⟨P_9, hfr_8⟩ := hp_7
    have F_10 : M_6 0 = .inr (7, [.ref (ad k 1), .ref (ad k 5), .ref (ad k 9), .ref (ad k 13), .ref (ad k 17), .ref (ad k 19), .ref (ad k 21), .ref (ad k 25)]) := by rw [hfr_8 0 (by omega)]; exact F0
    have P_11 : TxAt k M_6 tx := hTx.fr (fun i h1 h2 => hfr_8 i (by omega))
    have P_12 : TrAt k M_6 9 (build cs ds).1 (build cs ds).2 := hT.fr (fun i h1 h2 => hfr_8 i (by omega))
    have P_13 : MeAt k M_6 mem sl := hMe.fr (fun i h1 h2 => hfr_8 i (by omega))
    have P_14 : MoAt k M_6 cs := hMo.fr (fun i h1 h2 => hfr_8 i (by omega))
    have P_15 : ElAt k M_6  := hEl.fr (fun i h1 h2 => hfr_8 i (by omega))
    have P_16 : StAt k M_6 21 cs2 ds2 := hS2.fr (fun i h1 h2 => hfr_8 i (by omega))
    have P_17 : TrAt k M_6 25 tr2 cf2 := hT2.fr (fun i h1 h2 => hfr_8 i (by omega))
    refine v_aload_n X 0 dX7_restore_38 rfl ?_
    refine v_get X cls7 F_10 (by omega) 3 (by decide) m_257 rfl rfl dX7_restore_39 ?_
    refine v_callV X hCl hCR (c_X3_forgetAll l k M_6 mem sl P_13) cls3 P_13.obj (by omega) mo_X3_forgetAll m_153 m_292 m_293 m_294 m_148 (by decide) rfl rfl (Nat.le_of_ble_eq_true rfl) ⟨rfl, rfl⟩ ⟨by decide, by decide⟩ dX7_restore_42 (vV_in (fun M_18 hp_19 => ?_))
    obtain ⟨P_21, hfr_20⟩ := hp_19
    have F_22 : M_18 0 = .inr (7, [.ref (ad k 1), .ref (ad k 5), .ref (ad k 9), .ref (ad k 13), .ref (ad k 17), .ref (ad k 19), .ref (ad k 21), .ref (ad k 25)]) := by rw [hfr_20 0 (by omega)]; exact F_10
    have P_23 : TxAt k M_18 tx := P_11.fr (fun i h1 h2 => hfr_20 i (by omega))
    have P_24 : TrAt k M_18 9 (build cs ds).1 (build cs ds).2 := P_12.fr (fun i h1 h2 => hfr_20 i (by omega))
    have P_25 : MoAt k M_18 cs := P_14.fr (fun i h1 h2 => hfr_20 i (by omega))
    have P_26 : ElAt k M_18  := P_15.fr (fun i h1 h2 => hfr_20 i (by omega))
    have P_27 : StAt k M_18 21 cs2 ds2 := P_16.fr (fun i h1 h2 => hfr_20 i (by omega))
    have P_28 : TrAt k M_18 25 tr2 cf2 := P_17.fr (fun i h1 h2 => hfr_20 i (by omega))
    have P_29 : StAt k M_18 5 sd.1 sd.2 := P_9.fr (fun i h1 h2 => hfr_20 i (by omega))
    refine v_aload_n X 0 dX7_restore_45 rfl ?_
    refine v_callV X hCl hCR (c_X7_rebuild l k M_18 sd.1 sd.2 cs (build cs ds).1 (build cs ds).2 hN F_22 P_29 P_24 P_25 hso.1 hso.2.1) cls7 ⟨_, F_22⟩ (by omega) mo_X7_rebuild m_289 m_298 m_299 m_300 m_21 (by decide) rfl rfl (Nat.le_of_ble_eq_true rfl) ⟨rfl, rfl⟩ ⟨by decide, by decide⟩ dX7_restore_46 (vV_in (fun M_30 hp_31 => ?_))
    obtain ⟨P_33, P_34, P_35, hfr_32⟩ := hp_31
    have F_36 : M_30 0 = .inr (7, [.ref (ad k 1), .ref (ad k 5), .ref (ad k 9), .ref (ad k 13), .ref (ad k 17), .ref (ad k 19), .ref (ad k 21), .ref (ad k 25)]) := by rw [hfr_32 0 (by omega) (by omega)]; exact F_22
    have P_37 : TxAt k M_30 tx := P_23.fr (fun i h1 h2 => hfr_32 i (by omega) (by omega))
    have P_38 : ElAt k M_30  := P_26.fr (fun i h1 h2 => hfr_32 i (by omega) (by omega))
    have P_39 : StAt k M_30 21 cs2 ds2 := P_27.fr (fun i h1 h2 => hfr_32 i (by omega) (by omega))
    have P_40 : TrAt k M_30 25 tr2 cf2 := P_28.fr (fun i h1 h2 => hfr_32 i (by omega) (by omega))
    have P_41 : MeAt k M_30 [] sl := P_21.fr (fun i h1 h2 => hfr_32 i (by omega) (by omega))
    refine v_aload_n X 0 dX7_restore_49 rfl ?_
    refine v_get X cls7 F_36 (by omega) 1 (by decide) m_251 rfl rfl dX7_restore_50 ?_
    obtain ⟨hN_42, hF_43, hl_44, g_45, F0_46, F3_47, hg_48⟩ := id P_33
    refine v_getN X cls5 F0_46 (by omega) 0 (by decide) nw_11 rfl rfl dX7_restore_53 ?_
    obtain ⟨hN_50, hl_51, f_49, F_52, F_53, hf_54⟩ := id hF_43
    refine v_getN X cls1 F_52 (by omega) 1 (by decide) nw_5 rfl rfl dX7_restore_56 ?_
    exact v_iret X rq ⟨by decide, by decide⟩ rfl dX7_restore_59 ⟨_, rfl, ⟨j, sd, hj, rfl, hsd, rfl, ⟨hN, F_36, P_37, P_33, (by rw [(sNew_spec _ _).1]; exact P_34), P_41, P_35, P_38, ⟨_, _, P_39⟩, ⟨_, _, P_40⟩, hV.new hso.1 hso.2.1 hso.2.2 (fun y hy => by cases hy) hV.2.2.2⟩⟩, (fun i hi => by rw [hfr_32 i (by omega) (by omega), hfr_20 i (by omega), hfr_8 i (by omega)])⟩
  · have hb := c_5
    exact v_throwSW X rx hCR hst rfl (Or.inr (Or.inl rfl)) m_276 m_277 (List.mem_of_getElem? (i := 22) rfl) inE1 bad72 ot72 dX7_restore_15 dX7_restore_18 dX7_restore_19 dX7_restore_22 dX7_restore_25 (by decide) (Nat.le_of_ble_eq_true rfl) (by decide) (by decide) ⟨Or.inr ⟨rfl, j, hj, rfl, by simpa using hb⟩, hSol, Fr.rf⟩
