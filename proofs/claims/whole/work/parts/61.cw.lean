/-! the law's cases -/
def LInv (k : KX) (M : Mem) : Prop := ∃ (w : Nat) (cs ds : List Nat) (mem : List SD) (sl : Nat → Option SD) (tx : List Nat) (g : Nat → Int64), SolAt k M cs ds mem sl tx ∧ RefAt k M w cs ds mem sl tx ∧ M 106 = .inl (kJ k, 1, .inr (.inl g))
def LCX (C : CT) (b L : Nat) (xs : Nat → Int32) : Prop := C_R C = room_1 ∧ (C_l C).stackTraces = false ∧ TXP (C_A C) (C_s C) (C_s C).heap ∧ NCP (C_s C) ∧ va_X b L xs (C_s C) (C_s C).heap ∧ b < (C_s C).heap.size ∧ ¬ C_A C b ∧ L ≤ 2048
theorem RefAt.wi {k : KX} {M : Mem} {w w' : Nat} {cs ds : List Nat} {mem : List SD} {sl : Nat → Option SD} {tx : List Nat} {cs' ds' : List Nat} {mem' : List SD} {sl' : Nat → Option SD} {tx' : List Nat} (h : RefAt k M w cs ds mem sl tx) (h' : RefAt k M w' cs' ds' mem' sl' tx') (hw : w < 2 ^ 31) (hw' : w' < 2 ^ 31) : w = w' := by
  obtain ⟨_, _, _, _, nx, lp, ln, sp, lc, so, nw, tl, di, kp, ik, sc, rd, li, F93, _⟩ := h
  obtain ⟨_, _, _, _, nx2, lp2, ln2, sp2, lc2, so2, nw2, tl2, di2, kp2, ik2, sc2, rd2, li2, F93', _⟩ := h'
  have e := F93.symm.trans F93'
  simp only [RO, Sum.inr.injEq, Prod.mk.injEq, List.cons.injEq, Value.int.injEq] at e
  exact (nI_eq hw hw').mp e.2.1

theorem bo_isParity {k : KX} {cs ds : List Nat} {mem : List SD} {sl : Nat → Option SD} {tx : List Nat} {x : Int32} {M1 M2 : Mem} {bv : Int32} {cs2 ds2 : List Nat} {mem2 : List SD} {sl2 : Nat → Option SD} {tx2 : List Nat} (h2 : RS_isParity k cs ds mem sl tx x M1 bv M2) (hR : RefAt k M2 0 cs2 ds2 mem2 sl2 tx2) : ∃ c, bv = bI c := by
  rcases h2.1 with ⟨_, hR1⟩ | ⟨j, _, _, h, _⟩
  · exact absurd (hR1.wi hR (by decide) (by decide)) (by decide)
  · exact ⟨_, h⟩
theorem bo_impliesClause {k : KX} {cs ds : List Nat} {mem : List SD} {sl : Nat → Option SD} {tx : List Nat} {p n : Int32} {M1 M2 : Mem} {bv : Int32} {cs2 ds2 : List Nat} {mem2 : List SD} {sl2 : Nat → Option SD} {tx2 : List Nat} (h2 : RS_impliesClause k cs ds mem sl tx p n M1 bv M2) (hR : RefAt k M2 0 cs2 ds2 mem2 sl2 tx2) : ∃ c, bv = bI c := by
  rcases h2.1 with ⟨_, hR1⟩ | ⟨p0, n0, _, _, _, _, _, h, _⟩
  · exact absurd (hR1.wi hR (by decide) (by decide)) (by decide)
  · exact ⟨_, h⟩
theorem bo_impliesParity {k : KX} {cs ds : List Nat} {mem : List SD} {sl : Nat → Option SD} {tx : List Nat} {m b : Int32} {M1 M2 : Mem} {bv : Int32} {cs2 ds2 : List Nat} {mem2 : List SD} {sl2 : Nat → Option SD} {tx2 : List Nat} (h2 : RS_impliesParity k cs ds mem sl tx m b M1 bv M2) (hR : RefAt k M2 0 cs2 ds2 mem2 sl2 tx2) : ∃ c, bv = bI c := by
  rcases h2.1 with ⟨_, hR1⟩ | ⟨m0, b0, _, _, _, _, h, _⟩
  · exact absurd (hR1.wi hR (by decide) (by decide)) (by decide)
  · exact ⟨_, h⟩
set_option maxHeartbeats 4000000 in
set_option maxRecDepth 100000 in
theorem lwc_0 {C : CT} {k : KX} {b L i : Nat} {xs : Nat → Int32} {M : Mem} (X : OKc C k cL_law RL 7 ret) (hLC : LCX C b L xs) (hN : 107 ≤ kN k) (hi : i + 3 < L) (hI : LInv k M) (kk : ∀ M', LInv k M' → V C k 7 (200 + 8 * (i + 4), 6000 + 64 * (i + 4)) M' 1688 [(4, .int (nI i)), (3, .ref (ad k 106)), (2, .ref (ad k 93)), (1, .ref (ad k 0)), (0, .ref b)] []) : V C k 7 (200 + 8 * i, 6000 + 64 * i) M 188 [(4, .int (nI i)), (3, .ref (ad k 106)), (2, .ref (ad k 93)), (1, .ref (ad k 0)), (0, .ref b)] [] := by
  obtain ⟨hCR, hst0, ht, hnc, hX, hbl, hbA, hL⟩ := hLC
  obtain ⟨w, cs, ds, mem, sl, tx, g, hSol, hRef, F106⟩ := hI
  have hCl : C_l C = C_l C := rfl
  refine v_aload_n X 3 dL_law_188 rfl ?_
  refine v_aload_n X 4 dL_law_189 rfl ?_
  refine v_iload X 0 dL_law_190 rfl ?_
  refine v_iconst X (v := nI 1) (by decide) dL_law_192 ?_
  refine v_addN X dL_law_193 ?_
  refine v_sld X hX hbl hbA (by omega) (by omega) dL_law_194 ?_
  refine v_aload_n X 1 dL_law_195 rfl ?_
  refine v_callL X ht hnc hCl hCR (c_L_append (C_l C) hst0 M g k cs ds mem sl tx (xs (i + 1)) hN hSol F106) mo_L_append m_632 m_736 m_737 m_738 ⟨Nat.le_of_ble_eq_true rfl, Nat.le_of_ble_eq_true rfl⟩ rfl rfl (Nat.le_of_ble_eq_true rfl) ⟨(show 200 + 8 * i + 1 ≤ 601024 by omega), (show 6000 + 64 * i + 6 ≤ 7293034 by omega)⟩ dL_law_196 (vI_in (fun kv M1 h1 => ?_))
  have hf1 := wf_append h1
  have hRef1 := hRef.fr hf1
  refine v_istore X [(5, .int kv), (4, .int (nI i)), (3, .ref (ad k 106)), (2, .ref (ad k 93)), (1, .ref (ad k 0)), (0, .ref b)] dL_law_199 (by decide) rfl ?_
  refine v_aload_n X 3 dL_law_201 rfl ?_
  refine v_aload_n X 5 dL_law_202 rfl ?_
  refine v_iload X 1 dL_law_203 rfl ?_
  refine v_iconst X (v := nI 1) (by decide) dL_law_205 ?_
  refine v_addN X dL_law_206 ?_
  refine v_sld X hX hbl hbA (by omega) (by omega) dL_law_207 ?_
  refine v_callV X hCl hCR (c_X8_append (C_l C) k M1 w cs ds mem sl tx (xs (i + 1)) hRef1) cls8 hRef1.obj (by omega) mo_X8_append m_503 m_739 m_740 m_741 m_465 ⟨Nat.le_of_ble_eq_true rfl, Nat.le_of_ble_eq_true rfl⟩ rfl rfl (Nat.le_of_ble_eq_true rfl) ⟨rfl, rfl⟩ ⟨(show 200 + 8 * i + 1 ≤ 601024 by omega), (show 6000 + 64 * i + 6 ≤ 7293034 by omega)⟩ dL_law_208 (vI_in (fun bv M2 h2 => ?_))
  obtain ⟨w2, cs2, ds2, mem2, sl2, tx2, g2, hkk, hw3, hS2, hR2, F2, hg2⟩ := mt_append F106 hRef h1 h2
  subst hkk
  refine v_istore X [(6, .int bv), (5, .int (nI w2)), (4, .int (nI i)), (3, .ref (ad k 106)), (2, .ref (ad k 93)), (1, .ref (ad k 0)), (0, .ref b)] dL_law_211 (by decide) rfl ?_
  refine v_aload_n X 4 dL_law_213 rfl ?_
  refine v_callV X hCl hCR (c_X8_thrown (C_l C) k M2 w2 cs2 ds2 mem2 sl2 tx2 hR2) cls8 hR2.obj (by omega) mo_X8_thrown m_456 m_742 m_743 m_744 m_465 ⟨Nat.le_of_ble_eq_true rfl, Nat.le_of_ble_eq_true rfl⟩ rfl rfl (Nat.le_of_ble_eq_true rfl) ⟨rfl, rfl⟩ ⟨(show 200 + 8 * i + 1 ≤ 601024 by omega), (show 6000 + 64 * i + 6 ≤ 7293034 by omega)⟩ dL_law_214 (vP_in ?_)
  refine v_iload X 1 dL_law_217 rfl ?_
  refine v_ceqN X 224 (by omega) (by omega) dL_law_219 (by decide) (fun c_1 => ?_) (fun c_1 => ?_)
  · refine v_iload X 1 dL_law_224 rfl ?_
    refine v_ineN X 241 (by omega) dL_law_226 (by decide) (fun c_2 => ?_) (fun c_2 => ?_)
    · refine v_goto X 1688 dL_law_241 (by decide) ?_
      refine v_widen (z' := (200 + 8 * (i + 4), 6000 + 64 * (i + 4))) (show 200 + 8 * i + 1 ≤ 200 + 8 * (i + 4) by omega) (show 6000 + 64 * i + 6 ≤ 6000 + 64 * (i + 4) by omega) ?_
      refine v_lv [2, 3, 4, 5, 6] rfl ?_
      exact kk M2 ⟨w2, cs2, ds2, mem2, sl2, tx2, g2, hS2, hR2, F2⟩
    · refine v_aload_n X 3 dL_law_229 rfl ?_
      refine v_iconst X (v := nI 0) (by decide) dL_law_230 ?_
      refine v_lald X (j := 0) F2 (by omega) (by decide) (by decide) dL_law_231 ?_
      refine v_iload X 0 dL_law_232 rfl ?_
      refine v_i2l X (v := (bv).toInt64) rfl dL_law_234 ?_
      refine v_lcmp X dL_law_235 ?_
      refine v_if_eq X 241 dL_law_236 (by decide) (fun c_3 => ?_) (fun c_3 => ?_)
      · refine v_goto X 1688 dL_law_241 (by decide) ?_
        refine v_widen (z' := (200 + 8 * (i + 4), 6000 + 64 * (i + 4))) (show 200 + 8 * i + 1 ≤ 200 + 8 * (i + 4) by omega) (show 6000 + 64 * i + 6 ≤ 6000 + 64 * (i + 4) by omega) ?_
        refine v_lv [2, 3, 4, 5, 6] rfl ?_
        exact kk M2 ⟨w2, cs2, ds2, mem2, sl2, tx2, g2, hS2, hR2, F2⟩
      · exact absurd ((lg_cmp_eq _ _).mpr (hg2 c_2)) c_3
  · exact absurd rfl c_1
set_option maxHeartbeats 4000000 in
set_option maxRecDepth 100000 in
theorem lwc_1 {C : CT} {k : KX} {b L i : Nat} {xs : Nat → Int32} {M : Mem} (X : OKc C k cL_law RL 7 ret) (hLC : LCX C b L xs) (hN : 107 ≤ kN k) (hi : i + 3 < L) (hI : LInv k M) (kk : ∀ M', LInv k M' → V C k 7 (200 + 8 * (i + 4), 6000 + 64 * (i + 4)) M' 1688 [(4, .int (nI i)), (3, .ref (ad k 106)), (2, .ref (ad k 93)), (1, .ref (ad k 0)), (0, .ref b)] []) : V C k 7 (200 + 8 * i, 6000 + 64 * i) M 244 [(4, .int (nI i)), (3, .ref (ad k 106)), (2, .ref (ad k 93)), (1, .ref (ad k 0)), (0, .ref b)] [] := by
  obtain ⟨hCR, hst0, ht, hnc, hX, hbl, hbA, hL⟩ := hLC
  obtain ⟨w, cs, ds, mem, sl, tx, g, hSol, hRef, F106⟩ := hI
  have hCl : C_l C = C_l C := rfl
  refine v_aload_n X 3 dL_law_244 rfl ?_
  refine v_callV X hCl hCR (c_X7_clearText (C_l C) k M cs ds mem sl tx  hSol) cls7 hSol.obj (by omega) mo_X7_clearText m_281 m_745 m_746 m_747 m_21 ⟨Nat.le_of_ble_eq_true rfl, Nat.le_of_ble_eq_true rfl⟩ rfl rfl (Nat.le_of_ble_eq_true rfl) ⟨rfl, rfl⟩ ⟨(show 200 + 8 * i ≤ 601024 by omega), (show 6000 + 64 * i ≤ 7293034 by omega)⟩ dL_law_245 (vI_in (fun r1 M1 h1 => ?_))
  have hRef1 : RefAt k M1 w cs ds mem sl tx := hRef.fr (fun i h _ => h1.2.2 i (Or.inr (by omega)))
  have F1 : M1 106 = .inl (kJ k, 1, .inr (.inl g)) := by rw [h1.2.2 106 (Or.inr (by omega))]; exact F106
  refine v_aload_n X 2 dL_law_248 rfl ?_
  refine v_callV X hCl hCR (c_X8_clearText (C_l C) k M1 w cs ds mem sl tx  hRef1) cls8 hRef1.obj (by omega) mo_X8_clearText m_511 m_748 m_749 m_750 m_465 ⟨Nat.le_of_ble_eq_true rfl, Nat.le_of_ble_eq_true rfl⟩ rfl rfl (Nat.le_of_ble_eq_true rfl) ⟨rfl, rfl⟩ ⟨(show 200 + 8 * i ≤ 601024 by omega), (show 6000 + 64 * i ≤ 7293034 by omega)⟩ dL_law_249 (vI_in (fun r2 M2 h2 => ?_))
  refine v_icmp_eq X 1688 dL_law_252 (by decide) (fun c_1 => ?_) (fun c_1 => ?_)
  · refine v_widen (z' := (200 + 8 * (i + 4), 6000 + 64 * (i + 4))) (show 200 + 8 * i ≤ 200 + 8 * (i + 4) by omega) (show 6000 + 64 * i ≤ 6000 + 64 * (i + 4) by omega) ?_
    exact kk M2 ⟨0, _, _, _, _, _, g, h1.2.1.fr (fun i hi => h2.2 i (Or.inl hi)), h2.1.2, by rw [h2.2 106 (Or.inr (by omega))]; exact F1⟩
  · exact absurd (h1.1.trans h2.1.1.symm) c_1
set_option maxHeartbeats 4000000 in
set_option maxRecDepth 100000 in
theorem lwc_2 {C : CT} {k : KX} {b L i : Nat} {xs : Nat → Int32} {M : Mem} (X : OKc C k cL_law RL 7 ret) (hLC : LCX C b L xs) (hN : 107 ≤ kN k) (hi : i + 3 < L) (hI : LInv k M) (kk : ∀ M', LInv k M' → V C k 7 (200 + 8 * (i + 4), 6000 + 64 * (i + 4)) M' 1688 [(4, .int (nI i)), (3, .ref (ad k 106)), (2, .ref (ad k 93)), (1, .ref (ad k 0)), (0, .ref b)] []) : V C k 7 (200 + 8 * i, 6000 + 64 * i) M 257 [(4, .int (nI i)), (3, .ref (ad k 106)), (2, .ref (ad k 93)), (1, .ref (ad k 0)), (0, .ref b)] [] := by
  obtain ⟨hCR, hst0, ht, hnc, hX, hbl, hbA, hL⟩ := hLC
  obtain ⟨w, cs, ds, mem, sl, tx, g, hSol, hRef, F106⟩ := hI
  have hCl : C_l C = C_l C := rfl
  refine v_aload_n X 3 dL_law_257 rfl ?_
  refine v_callV X hCl hCR (c_X7_errorPosition (C_l C) k M cs ds mem sl tx  hSol) cls7 hSol.obj (by omega) mo_X7_errorPosition m_285 m_751 m_752 m_753 m_21 ⟨Nat.le_of_ble_eq_true rfl, Nat.le_of_ble_eq_true rfl⟩ rfl rfl (Nat.le_of_ble_eq_true rfl) ⟨rfl, rfl⟩ ⟨(show 200 + 8 * i ≤ 601024 by omega), (show 6000 + 64 * i ≤ 7293034 by omega)⟩ dL_law_258 (vI_in (fun r1 M1 h1 => ?_))
  have hRef1 : RefAt k M1 w cs ds mem sl tx := hRef.fr (fun i h _ => h1.2.2 i (Or.inr (by omega)))
  have F1 : M1 106 = .inl (kJ k, 1, .inr (.inl g)) := by rw [h1.2.2 106 (Or.inr (by omega))]; exact F106
  refine v_aload_n X 2 dL_law_261 rfl ?_
  refine v_callV X hCl hCR (c_X8_errorPosition (C_l C) k M1 w cs ds mem sl tx  hRef1) cls8 hRef1.obj (by omega) mo_X8_errorPosition m_535 m_754 m_755 m_756 m_465 ⟨Nat.le_of_ble_eq_true rfl, Nat.le_of_ble_eq_true rfl⟩ rfl rfl (Nat.le_of_ble_eq_true rfl) ⟨rfl, rfl⟩ ⟨(show 200 + 8 * i ≤ 601024 by omega), (show 6000 + 64 * i ≤ 7293034 by omega)⟩ dL_law_262 (vI_in (fun r2 M2 h2 => ?_))
  refine v_icmp_eq X 1688 dL_law_265 (by decide) (fun c_1 => ?_) (fun c_1 => ?_)
  · refine v_widen (z' := (200 + 8 * (i + 4), 6000 + 64 * (i + 4))) (show 200 + 8 * i ≤ 200 + 8 * (i + 4) by omega) (show 6000 + 64 * i ≤ 6000 + 64 * (i + 4) by omega) ?_
    exact kk M2 ⟨0, _, _, _, _, _, g, h1.2.1.fr (fun i hi => h2.2 i (Or.inl hi)), h2.1.2, by rw [h2.2 106 (Or.inr (by omega))]; exact F1⟩
  · exact absurd (h1.1.trans h2.1.1.symm) c_1
set_option maxHeartbeats 4000000 in
set_option maxRecDepth 100000 in
theorem lwc_3 {C : CT} {k : KX} {b L i : Nat} {xs : Nat → Int32} {M : Mem} (X : OKc C k cL_law RL 7 ret) (hLC : LCX C b L xs) (hN : 107 ≤ kN k) (hi : i + 3 < L) (hI : LInv k M) (kk : ∀ M', LInv k M' → V C k 7 (200 + 8 * (i + 4), 6000 + 64 * (i + 4)) M' 1688 [(4, .int (nI i)), (3, .ref (ad k 106)), (2, .ref (ad k 93)), (1, .ref (ad k 0)), (0, .ref b)] []) : V C k 7 (200 + 8 * i, 6000 + 64 * i) M 270 [(4, .int (nI i)), (3, .ref (ad k 106)), (2, .ref (ad k 93)), (1, .ref (ad k 0)), (0, .ref b)] [] := by
  obtain ⟨hCR, hst0, ht, hnc, hX, hbl, hbA, hL⟩ := hLC
  obtain ⟨w, cs, ds, mem, sl, tx, g, hSol, hRef, F106⟩ := hI
  have hCl : C_l C = C_l C := rfl
  refine v_aload_n X 3 dL_law_270 rfl ?_
  refine v_aload_n X 1 dL_law_271 rfl ?_
  refine v_callL X ht hnc hCl hCR (c_L_load (C_l C) hst0 M g k cs ds mem sl tx  hN hSol F106) mo_L_load m_641 m_757 m_758 m_738 ⟨Nat.le_of_ble_eq_true rfl, Nat.le_of_ble_eq_true rfl⟩ rfl rfl (Nat.le_of_ble_eq_true rfl) ⟨(show 200 + 8 * i + 1 ≤ 601024 by omega), (show 6000 + 64 * i + 6 ≤ 7293034 by omega)⟩ dL_law_272 (vI_in (fun kv M1 h1 => ?_))
  have hf1 := wf_load h1
  have hRef1 := hRef.fr hf1
  refine v_istore X [(5, .int kv), (4, .int (nI i)), (3, .ref (ad k 106)), (2, .ref (ad k 93)), (1, .ref (ad k 0)), (0, .ref b)] dL_law_275 (by decide) rfl ?_
  refine v_aload_n X 3 dL_law_277 rfl ?_
  refine v_callV X hCl hCR (c_X8_load (C_l C) k M1 w cs ds mem sl tx  hRef1) cls8 hRef1.obj (by omega) mo_X8_load m_536 m_759 m_760 m_761 m_465 ⟨Nat.le_of_ble_eq_true rfl, Nat.le_of_ble_eq_true rfl⟩ rfl rfl (Nat.le_of_ble_eq_true rfl) ⟨rfl, rfl⟩ ⟨(show 200 + 8 * i + 1 ≤ 601024 by omega), (show 6000 + 64 * i + 6 ≤ 7293034 by omega)⟩ dL_law_278 (vI_in (fun bv M2 h2 => ?_))
  obtain ⟨w2, cs2, ds2, mem2, sl2, tx2, g2, hkk, hw3, hS2, hR2, F2, hg2⟩ := mt_load F106 hRef h1 h2
  subst hkk
  refine v_istore X [(6, .int bv), (5, .int (nI w2)), (4, .int (nI i)), (3, .ref (ad k 106)), (2, .ref (ad k 93)), (1, .ref (ad k 0)), (0, .ref b)] dL_law_281 (by decide) rfl ?_
  refine v_aload_n X 4 dL_law_283 rfl ?_
  refine v_callV X hCl hCR (c_X8_thrown (C_l C) k M2 w2 cs2 ds2 mem2 sl2 tx2 hR2) cls8 hR2.obj (by omega) mo_X8_thrown m_456 m_742 m_743 m_744 m_465 ⟨Nat.le_of_ble_eq_true rfl, Nat.le_of_ble_eq_true rfl⟩ rfl rfl (Nat.le_of_ble_eq_true rfl) ⟨rfl, rfl⟩ ⟨(show 200 + 8 * i + 1 ≤ 601024 by omega), (show 6000 + 64 * i + 6 ≤ 7293034 by omega)⟩ dL_law_284 (vP_in ?_)
  refine v_iload X 1 dL_law_287 rfl ?_
  refine v_ceqN X 294 (by omega) (by omega) dL_law_289 (by decide) (fun c_1 => ?_) (fun c_1 => ?_)
  · refine v_iload X 1 dL_law_294 rfl ?_
    refine v_ineN X 311 (by omega) dL_law_296 (by decide) (fun c_2 => ?_) (fun c_2 => ?_)
    · refine v_goto X 1688 dL_law_311 (by decide) ?_
      refine v_widen (z' := (200 + 8 * (i + 4), 6000 + 64 * (i + 4))) (show 200 + 8 * i + 1 ≤ 200 + 8 * (i + 4) by omega) (show 6000 + 64 * i + 6 ≤ 6000 + 64 * (i + 4) by omega) ?_
      refine v_lv [2, 3, 4, 5, 6] rfl ?_
      exact kk M2 ⟨w2, cs2, ds2, mem2, sl2, tx2, g2, hS2, hR2, F2⟩
    · refine v_aload_n X 3 dL_law_299 rfl ?_
      refine v_iconst X (v := nI 0) (by decide) dL_law_300 ?_
      refine v_lald X (j := 0) F2 (by omega) (by decide) (by decide) dL_law_301 ?_
      refine v_iload X 0 dL_law_302 rfl ?_
      refine v_i2l X (v := (bv).toInt64) rfl dL_law_304 ?_
      refine v_lcmp X dL_law_305 ?_
      refine v_if_eq X 311 dL_law_306 (by decide) (fun c_3 => ?_) (fun c_3 => ?_)
      · refine v_goto X 1688 dL_law_311 (by decide) ?_
        refine v_widen (z' := (200 + 8 * (i + 4), 6000 + 64 * (i + 4))) (show 200 + 8 * i + 1 ≤ 200 + 8 * (i + 4) by omega) (show 6000 + 64 * i + 6 ≤ 6000 + 64 * (i + 4) by omega) ?_
        refine v_lv [2, 3, 4, 5, 6] rfl ?_
        exact kk M2 ⟨w2, cs2, ds2, mem2, sl2, tx2, g2, hS2, hR2, F2⟩
      · exact absurd ((lg_cmp_eq _ _).mpr (hg2 c_2)) c_3
  · exact absurd rfl c_1
set_option maxHeartbeats 4000000 in
set_option maxRecDepth 100000 in
theorem lwc_4 {C : CT} {k : KX} {b L i : Nat} {xs : Nat → Int32} {M : Mem} (X : OKc C k cL_law RL 7 ret) (hLC : LCX C b L xs) (hN : 107 ≤ kN k) (hi : i + 3 < L) (hI : LInv k M) (kk : ∀ M', LInv k M' → V C k 7 (200 + 8 * (i + 4), 6000 + 64 * (i + 4)) M' 1688 [(4, .int (nI i)), (3, .ref (ad k 106)), (2, .ref (ad k 93)), (1, .ref (ad k 0)), (0, .ref b)] []) : V C k 7 (200 + 8 * i, 6000 + 64 * i) M 314 [(4, .int (nI i)), (3, .ref (ad k 106)), (2, .ref (ad k 93)), (1, .ref (ad k 0)), (0, .ref b)] [] := by
  obtain ⟨hCR, hst0, ht, hnc, hX, hbl, hbA, hL⟩ := hLC
  obtain ⟨w, cs, ds, mem, sl, tx, g, hSol, hRef, F106⟩ := hI
  have hCl : C_l C = C_l C := rfl
  refine v_aload_n X 3 dL_law_314 rfl ?_
  refine v_callV X hCl hCR (c_X7_constraintCount (C_l C) k M cs ds mem sl tx  hSol) cls7 hSol.obj (by omega) mo_X7_constraintCount m_302 m_762 m_763 m_764 m_21 ⟨Nat.le_of_ble_eq_true rfl, Nat.le_of_ble_eq_true rfl⟩ rfl rfl (Nat.le_of_ble_eq_true rfl) ⟨rfl, rfl⟩ ⟨(show 200 + 8 * i ≤ 601024 by omega), (show 6000 + 64 * i ≤ 7293034 by omega)⟩ dL_law_315 (vI_in (fun r1 M1 h1 => ?_))
  have hRef1 : RefAt k M1 w cs ds mem sl tx := hRef.fr (fun i h _ => h1.2.2 i (Or.inr (by omega)))
  have F1 : M1 106 = .inl (kJ k, 1, .inr (.inl g)) := by rw [h1.2.2 106 (Or.inr (by omega))]; exact F106
  refine v_aload_n X 2 dL_law_318 rfl ?_
  refine v_callV X hCl hCR (c_X8_constraintCount (C_l C) k M1 w cs ds mem sl tx  hRef1) cls8 hRef1.obj (by omega) mo_X8_constraintCount m_538 m_765 m_766 m_767 m_465 ⟨Nat.le_of_ble_eq_true rfl, Nat.le_of_ble_eq_true rfl⟩ rfl rfl (Nat.le_of_ble_eq_true rfl) ⟨rfl, rfl⟩ ⟨(show 200 + 8 * i ≤ 601024 by omega), (show 6000 + 64 * i ≤ 7293034 by omega)⟩ dL_law_319 (vI_in (fun r2 M2 h2 => ?_))
  refine v_icmp_eq X 1688 dL_law_322 (by decide) (fun c_1 => ?_) (fun c_1 => ?_)
  · refine v_widen (z' := (200 + 8 * (i + 4), 6000 + 64 * (i + 4))) (show 200 + 8 * i ≤ 200 + 8 * (i + 4) by omega) (show 6000 + 64 * i ≤ 6000 + 64 * (i + 4) by omega) ?_
    exact kk M2 ⟨0, _, _, _, _, _, g, h1.2.1.fr (fun i hi => h2.2 i (Or.inl hi)), h2.1.2, by rw [h2.2 106 (Or.inr (by omega))]; exact F1⟩
  · exact absurd (h1.1.trans h2.1.1.symm) c_1
set_option maxHeartbeats 4000000 in
set_option maxRecDepth 100000 in
theorem lwc_5 {C : CT} {k : KX} {b L i : Nat} {xs : Nat → Int32} {M : Mem} (X : OKc C k cL_law RL 7 ret) (hLC : LCX C b L xs) (hN : 107 ≤ kN k) (hi : i + 3 < L) (hI : LInv k M) (kk : ∀ M', LInv k M' → V C k 7 (200 + 8 * (i + 4), 6000 + 64 * (i + 4)) M' 1688 [(4, .int (nI i)), (3, .ref (ad k 106)), (2, .ref (ad k 93)), (1, .ref (ad k 0)), (0, .ref b)] []) : V C k 7 (200 + 8 * i, 6000 + 64 * i) M 327 [(4, .int (nI i)), (3, .ref (ad k 106)), (2, .ref (ad k 93)), (1, .ref (ad k 0)), (0, .ref b)] [] := by
  obtain ⟨hCR, hst0, ht, hnc, hX, hbl, hbA, hL⟩ := hLC
  obtain ⟨w, cs, ds, mem, sl, tx, g, hSol, hRef, F106⟩ := hI
  have hCl : C_l C = C_l C := rfl
  refine v_aload_n X 3 dL_law_327 rfl ?_
  refine v_aload_n X 4 dL_law_328 rfl ?_
  refine v_iload X 0 dL_law_329 rfl ?_
  refine v_iconst X (v := nI 1) (by decide) dL_law_331 ?_
  refine v_addN X dL_law_332 ?_
  refine v_sld X hX hbl hbA (by omega) (by omega) dL_law_333 ?_
  refine v_aload_n X 1 dL_law_334 rfl ?_
  refine v_callL X ht hnc hCl hCR (c_L_isParity (C_l C) hst0 M g k cs ds mem sl tx (xs (i + 1)) hN hSol F106) mo_L_isParity m_646 m_768 m_769 m_738 ⟨Nat.le_of_ble_eq_true rfl, Nat.le_of_ble_eq_true rfl⟩ rfl rfl (Nat.le_of_ble_eq_true rfl) ⟨(show 200 + 8 * i + 1 ≤ 601024 by omega), (show 6000 + 64 * i + 6 ≤ 7293034 by omega)⟩ dL_law_335 (vI_in (fun kv M1 h1 => ?_))
  have hf1 := wf_isParity h1
  have hRef1 := hRef.fr hf1
  refine v_istore X [(5, .int kv), (4, .int (nI i)), (3, .ref (ad k 106)), (2, .ref (ad k 93)), (1, .ref (ad k 0)), (0, .ref b)] dL_law_338 (by decide) rfl ?_
  refine v_aload_n X 3 dL_law_340 rfl ?_
  refine v_aload_n X 5 dL_law_341 rfl ?_
  refine v_iload X 1 dL_law_342 rfl ?_
  refine v_iconst X (v := nI 1) (by decide) dL_law_344 ?_
  refine v_addN X dL_law_345 ?_
  refine v_sld X hX hbl hbA (by omega) (by omega) dL_law_346 ?_
  refine v_callV X hCl hCR (c_X8_isParity (C_l C) k M1 w cs ds mem sl tx (xs (i + 1)) hRef1) cls8 hRef1.obj (by omega) mo_X8_isParity m_539 m_770 m_771 m_772 m_465 ⟨Nat.le_of_ble_eq_true rfl, Nat.le_of_ble_eq_true rfl⟩ rfl rfl (Nat.le_of_ble_eq_true rfl) ⟨rfl, rfl⟩ ⟨(show 200 + 8 * i + 1 ≤ 601024 by omega), (show 6000 + 64 * i + 6 ≤ 7293034 by omega)⟩ dL_law_347 (vI_in (fun bv M2 h2 => ?_))
  obtain ⟨w2, cs2, ds2, mem2, sl2, tx2, g2, hkk, hw3, hS2, hR2, F2, hg2⟩ := mt_isParity F106 hRef h1 h2
  subst hkk
  refine v_istore X [(6, .int bv), (5, .int (nI w2)), (4, .int (nI i)), (3, .ref (ad k 106)), (2, .ref (ad k 93)), (1, .ref (ad k 0)), (0, .ref b)] dL_law_350 (by decide) rfl ?_
  refine v_aload_n X 4 dL_law_352 rfl ?_
  refine v_callV X hCl hCR (c_X8_thrown (C_l C) k M2 w2 cs2 ds2 mem2 sl2 tx2 hR2) cls8 hR2.obj (by omega) mo_X8_thrown m_456 m_742 m_743 m_744 m_465 ⟨Nat.le_of_ble_eq_true rfl, Nat.le_of_ble_eq_true rfl⟩ rfl rfl (Nat.le_of_ble_eq_true rfl) ⟨rfl, rfl⟩ ⟨(show 200 + 8 * i + 1 ≤ 601024 by omega), (show 6000 + 64 * i + 6 ≤ 7293034 by omega)⟩ dL_law_353 (vP_in ?_)
  refine v_iload X 1 dL_law_356 rfl ?_
  refine v_ceqN X 363 (by omega) (by omega) dL_law_358 (by decide) (fun c_1 => ?_) (fun c_1 => ?_)
  · refine v_iload X 1 dL_law_363 rfl ?_
    refine v_ineN X 387 (by omega) dL_law_365 (by decide) (fun c_2 => ?_) (fun c_2 => ?_)
    · refine v_goto X 1688 dL_law_387 (by decide) ?_
      refine v_widen (z' := (200 + 8 * (i + 4), 6000 + 64 * (i + 4))) (show 200 + 8 * i + 1 ≤ 200 + 8 * (i + 4) by omega) (show 6000 + 64 * i + 6 ≤ 6000 + 64 * (i + 4) by omega) ?_
      refine v_lv [2, 3, 4, 5, 6] rfl ?_
      exact kk M2 ⟨w2, cs2, ds2, mem2, sl2, tx2, g2, hS2, hR2, F2⟩
    · refine v_aload_n X 3 dL_law_368 rfl ?_
      refine v_iconst X (v := nI 0) (by decide) dL_law_369 ?_
      refine v_lald X (j := 0) F2 (by omega) (by decide) (by decide) dL_law_370 ?_
      refine v_iload X 0 dL_law_371 rfl ?_
      refine v_if_eq X 380 dL_law_373 (by decide) (fun c_3 => ?_) (fun c_3 => ?_)
      · refine v_lconst X (v := 0) (by decide) dL_law_380 ?_
        refine v_lcmp X dL_law_381 ?_
        refine v_if_eq X 387 dL_law_382 (by decide) (fun c_4 => ?_) (fun c_4 => ?_)
        · refine v_goto X 1688 dL_law_387 (by decide) ?_
          refine v_widen (z' := (200 + 8 * (i + 4), 6000 + 64 * (i + 4))) (show 200 + 8 * i + 1 ≤ 200 + 8 * (i + 4) by omega) (show 6000 + 64 * i + 6 ≤ 6000 + 64 * (i + 4) by omega) ?_
          refine v_lv [2, 3, 4, 5, 6] rfl ?_
          exact kk M2 ⟨w2, cs2, ds2, mem2, sl2, tx2, g2, hS2, hR2, F2⟩
        · exact absurd ((lg_cmp_eq _ _).mpr ((hg2 c_2).trans (z_long c_3))) c_4
      · refine v_lconst X (v := 1) (by decide) dL_law_376 ?_
        refine v_goto X 381 dL_law_377 (by decide) ?_
        refine v_lcmp X dL_law_381 ?_
        refine v_if_eq X 387 dL_law_382 (by decide) (fun c_5 => ?_) (fun c_5 => ?_)
        · refine v_goto X 1688 dL_law_387 (by decide) ?_
          refine v_widen (z' := (200 + 8 * (i + 4), 6000 + 64 * (i + 4))) (show 200 + 8 * i + 1 ≤ 200 + 8 * (i + 4) by omega) (show 6000 + 64 * i + 6 ≤ 6000 + 64 * (i + 4) by omega) ?_
          refine v_lv [2, 3, 4, 5, 6] rfl ?_
          exact kk M2 ⟨w2, cs2, ds2, mem2, sl2, tx2, g2, hS2, hR2, F2⟩
        · exact absurd ((lg_cmp_eq _ _).mpr ((hg2 c_2).trans (b_long (bo_isParity h2 (by rw [c_2] at hR2; exact hR2)) c_3))) c_5
  · exact absurd rfl c_1
set_option maxHeartbeats 4000000 in
set_option maxRecDepth 100000 in
theorem lwc_6 {C : CT} {k : KX} {b L i : Nat} {xs : Nat → Int32} {M : Mem} (X : OKc C k cL_law RL 7 ret) (hLC : LCX C b L xs) (hN : 107 ≤ kN k) (hi : i + 3 < L) (hI : LInv k M) (kk : ∀ M', LInv k M' → V C k 7 (200 + 8 * (i + 4), 6000 + 64 * (i + 4)) M' 1688 [(4, .int (nI i)), (3, .ref (ad k 106)), (2, .ref (ad k 93)), (1, .ref (ad k 0)), (0, .ref b)] []) : V C k 7 (200 + 8 * i, 6000 + 64 * i) M 390 [(4, .int (nI i)), (3, .ref (ad k 106)), (2, .ref (ad k 93)), (1, .ref (ad k 0)), (0, .ref b)] [] := by
  obtain ⟨hCR, hst0, ht, hnc, hX, hbl, hbA, hL⟩ := hLC
  obtain ⟨w, cs, ds, mem, sl, tx, g, hSol, hRef, F106⟩ := hI
  have hCl : C_l C = C_l C := rfl
  refine v_aload_n X 3 dL_law_390 rfl ?_
  refine v_aload_n X 4 dL_law_391 rfl ?_
  refine v_iload X 0 dL_law_392 rfl ?_
  refine v_iconst X (v := nI 1) (by decide) dL_law_394 ?_
  refine v_addN X dL_law_395 ?_
  refine v_sld X hX hbl hbA (by omega) (by omega) dL_law_396 ?_
  refine v_aload_n X 1 dL_law_397 rfl ?_
  refine v_callL X ht hnc hCl hCR (c_L_variables (C_l C) hst0 M g k cs ds mem sl tx (xs (i + 1)) hN hSol F106) mo_L_variables m_650 m_773 m_774 m_738 ⟨Nat.le_of_ble_eq_true rfl, Nat.le_of_ble_eq_true rfl⟩ rfl rfl (Nat.le_of_ble_eq_true rfl) ⟨(show 200 + 8 * i + 1 ≤ 601024 by omega), (show 6000 + 64 * i + 6 ≤ 7293034 by omega)⟩ dL_law_398 (vI_in (fun kv M1 h1 => ?_))
  have hf1 := wf_variables h1
  have hRef1 := hRef.fr hf1
  refine v_istore X [(5, .int kv), (4, .int (nI i)), (3, .ref (ad k 106)), (2, .ref (ad k 93)), (1, .ref (ad k 0)), (0, .ref b)] dL_law_401 (by decide) rfl ?_
  refine v_aload_n X 3 dL_law_403 rfl ?_
  refine v_aload_n X 5 dL_law_404 rfl ?_
  refine v_iload X 1 dL_law_405 rfl ?_
  refine v_iconst X (v := nI 1) (by decide) dL_law_407 ?_
  refine v_addN X dL_law_408 ?_
  refine v_sld X hX hbl hbA (by omega) (by omega) dL_law_409 ?_
  refine v_callV X hCl hCR (c_X8_variables (C_l C) k M1 w cs ds mem sl tx (xs (i + 1)) hRef1) cls8 hRef1.obj (by omega) mo_X8_variables m_543 m_775 m_776 m_777 m_465 ⟨Nat.le_of_ble_eq_true rfl, Nat.le_of_ble_eq_true rfl⟩ rfl rfl (Nat.le_of_ble_eq_true rfl) ⟨rfl, rfl⟩ ⟨(show 200 + 8 * i + 1 ≤ 601024 by omega), (show 6000 + 64 * i + 6 ≤ 7293034 by omega)⟩ dL_law_410 (vI_in (fun bv M2 h2 => ?_))
  obtain ⟨w2, cs2, ds2, mem2, sl2, tx2, g2, hkk, hw3, hS2, hR2, F2, hg2⟩ := mt_variables F106 hRef h1 h2
  subst hkk
  refine v_istore X [(6, .int bv), (5, .int (nI w2)), (4, .int (nI i)), (3, .ref (ad k 106)), (2, .ref (ad k 93)), (1, .ref (ad k 0)), (0, .ref b)] dL_law_413 (by decide) rfl ?_
  refine v_aload_n X 4 dL_law_415 rfl ?_
  refine v_callV X hCl hCR (c_X8_thrown (C_l C) k M2 w2 cs2 ds2 mem2 sl2 tx2 hR2) cls8 hR2.obj (by omega) mo_X8_thrown m_456 m_742 m_743 m_744 m_465 ⟨Nat.le_of_ble_eq_true rfl, Nat.le_of_ble_eq_true rfl⟩ rfl rfl (Nat.le_of_ble_eq_true rfl) ⟨rfl, rfl⟩ ⟨(show 200 + 8 * i + 1 ≤ 601024 by omega), (show 6000 + 64 * i + 6 ≤ 7293034 by omega)⟩ dL_law_416 (vP_in ?_)
  refine v_iload X 1 dL_law_419 rfl ?_
  refine v_ceqN X 426 (by omega) (by omega) dL_law_421 (by decide) (fun c_1 => ?_) (fun c_1 => ?_)
  · refine v_iload X 1 dL_law_426 rfl ?_
    refine v_ineN X 443 (by omega) dL_law_428 (by decide) (fun c_2 => ?_) (fun c_2 => ?_)
    · refine v_goto X 1688 dL_law_443 (by decide) ?_
      refine v_widen (z' := (200 + 8 * (i + 4), 6000 + 64 * (i + 4))) (show 200 + 8 * i + 1 ≤ 200 + 8 * (i + 4) by omega) (show 6000 + 64 * i + 6 ≤ 6000 + 64 * (i + 4) by omega) ?_
      refine v_lv [2, 3, 4, 5, 6] rfl ?_
      exact kk M2 ⟨w2, cs2, ds2, mem2, sl2, tx2, g2, hS2, hR2, F2⟩
    · refine v_aload_n X 3 dL_law_431 rfl ?_
      refine v_iconst X (v := nI 0) (by decide) dL_law_432 ?_
      refine v_lald X (j := 0) F2 (by omega) (by decide) (by decide) dL_law_433 ?_
      refine v_iload X 0 dL_law_434 rfl ?_
      refine v_i2l X (v := (bv).toInt64) rfl dL_law_436 ?_
      refine v_lcmp X dL_law_437 ?_
      refine v_if_eq X 443 dL_law_438 (by decide) (fun c_3 => ?_) (fun c_3 => ?_)
      · refine v_goto X 1688 dL_law_443 (by decide) ?_
        refine v_widen (z' := (200 + 8 * (i + 4), 6000 + 64 * (i + 4))) (show 200 + 8 * i + 1 ≤ 200 + 8 * (i + 4) by omega) (show 6000 + 64 * i + 6 ≤ 6000 + 64 * (i + 4) by omega) ?_
        refine v_lv [2, 3, 4, 5, 6] rfl ?_
        exact kk M2 ⟨w2, cs2, ds2, mem2, sl2, tx2, g2, hS2, hR2, F2⟩
      · exact absurd ((lg_cmp_eq _ _).mpr (hg2 c_2)) c_3
  · exact absurd rfl c_1
set_option maxHeartbeats 4000000 in
set_option maxRecDepth 100000 in
theorem lwc_7 {C : CT} {k : KX} {b L i : Nat} {xs : Nat → Int32} {M : Mem} (X : OKc C k cL_law RL 7 ret) (hLC : LCX C b L xs) (hN : 107 ≤ kN k) (hi : i + 3 < L) (hI : LInv k M) (kk : ∀ M', LInv k M' → V C k 7 (200 + 8 * (i + 4), 6000 + 64 * (i + 4)) M' 1688 [(4, .int (nI i)), (3, .ref (ad k 106)), (2, .ref (ad k 93)), (1, .ref (ad k 0)), (0, .ref b)] []) : V C k 7 (200 + 8 * i, 6000 + 64 * i) M 446 [(4, .int (nI i)), (3, .ref (ad k 106)), (2, .ref (ad k 93)), (1, .ref (ad k 0)), (0, .ref b)] [] := by
  obtain ⟨hCR, hst0, ht, hnc, hX, hbl, hbA, hL⟩ := hLC
  obtain ⟨w, cs, ds, mem, sl, tx, g, hSol, hRef, F106⟩ := hI
  have hCl : C_l C = C_l C := rfl
  refine v_aload_n X 3 dL_law_446 rfl ?_
  refine v_aload_n X 4 dL_law_447 rfl ?_
  refine v_iload X 0 dL_law_448 rfl ?_
  refine v_iconst X (v := nI 1) (by decide) dL_law_450 ?_
  refine v_addN X dL_law_451 ?_
  refine v_sld X hX hbl hbA (by omega) (by omega) dL_law_452 ?_
  refine v_aload_n X 1 dL_law_453 rfl ?_
  refine v_callL X ht hnc hCl hCR (c_L_negated (C_l C) hst0 M g k cs ds mem sl tx (xs (i + 1)) hN hSol F106) mo_L_negated m_654 m_778 m_779 m_738 ⟨Nat.le_of_ble_eq_true rfl, Nat.le_of_ble_eq_true rfl⟩ rfl rfl (Nat.le_of_ble_eq_true rfl) ⟨(show 200 + 8 * i + 1 ≤ 601024 by omega), (show 6000 + 64 * i + 6 ≤ 7293034 by omega)⟩ dL_law_454 (vI_in (fun kv M1 h1 => ?_))
  have hf1 := wf_negated h1
  have hRef1 := hRef.fr hf1
  refine v_istore X [(5, .int kv), (4, .int (nI i)), (3, .ref (ad k 106)), (2, .ref (ad k 93)), (1, .ref (ad k 0)), (0, .ref b)] dL_law_457 (by decide) rfl ?_
  refine v_aload_n X 3 dL_law_459 rfl ?_
  refine v_aload_n X 5 dL_law_460 rfl ?_
  refine v_iload X 1 dL_law_461 rfl ?_
  refine v_iconst X (v := nI 1) (by decide) dL_law_463 ?_
  refine v_addN X dL_law_464 ?_
  refine v_sld X hX hbl hbA (by omega) (by omega) dL_law_465 ?_
  refine v_callV X hCl hCR (c_X8_negated (C_l C) k M1 w cs ds mem sl tx (xs (i + 1)) hRef1) cls8 hRef1.obj (by omega) mo_X8_negated m_544 m_780 m_781 m_782 m_465 ⟨Nat.le_of_ble_eq_true rfl, Nat.le_of_ble_eq_true rfl⟩ rfl rfl (Nat.le_of_ble_eq_true rfl) ⟨rfl, rfl⟩ ⟨(show 200 + 8 * i + 1 ≤ 601024 by omega), (show 6000 + 64 * i + 6 ≤ 7293034 by omega)⟩ dL_law_466 (vI_in (fun bv M2 h2 => ?_))
  obtain ⟨w2, cs2, ds2, mem2, sl2, tx2, g2, hkk, hw3, hS2, hR2, F2, hg2⟩ := mt_negated F106 hRef h1 h2
  subst hkk
  refine v_istore X [(6, .int bv), (5, .int (nI w2)), (4, .int (nI i)), (3, .ref (ad k 106)), (2, .ref (ad k 93)), (1, .ref (ad k 0)), (0, .ref b)] dL_law_469 (by decide) rfl ?_
  refine v_aload_n X 4 dL_law_471 rfl ?_
  refine v_callV X hCl hCR (c_X8_thrown (C_l C) k M2 w2 cs2 ds2 mem2 sl2 tx2 hR2) cls8 hR2.obj (by omega) mo_X8_thrown m_456 m_742 m_743 m_744 m_465 ⟨Nat.le_of_ble_eq_true rfl, Nat.le_of_ble_eq_true rfl⟩ rfl rfl (Nat.le_of_ble_eq_true rfl) ⟨rfl, rfl⟩ ⟨(show 200 + 8 * i + 1 ≤ 601024 by omega), (show 6000 + 64 * i + 6 ≤ 7293034 by omega)⟩ dL_law_472 (vP_in ?_)
  refine v_iload X 1 dL_law_475 rfl ?_
  refine v_ceqN X 482 (by omega) (by omega) dL_law_477 (by decide) (fun c_1 => ?_) (fun c_1 => ?_)
  · refine v_iload X 1 dL_law_482 rfl ?_
    refine v_ineN X 499 (by omega) dL_law_484 (by decide) (fun c_2 => ?_) (fun c_2 => ?_)
    · refine v_goto X 1688 dL_law_499 (by decide) ?_
      refine v_widen (z' := (200 + 8 * (i + 4), 6000 + 64 * (i + 4))) (show 200 + 8 * i + 1 ≤ 200 + 8 * (i + 4) by omega) (show 6000 + 64 * i + 6 ≤ 6000 + 64 * (i + 4) by omega) ?_
      refine v_lv [2, 3, 4, 5, 6] rfl ?_
      exact kk M2 ⟨w2, cs2, ds2, mem2, sl2, tx2, g2, hS2, hR2, F2⟩
    · refine v_aload_n X 3 dL_law_487 rfl ?_
      refine v_iconst X (v := nI 0) (by decide) dL_law_488 ?_
      refine v_lald X (j := 0) F2 (by omega) (by decide) (by decide) dL_law_489 ?_
      refine v_iload X 0 dL_law_490 rfl ?_
      refine v_i2l X (v := (bv).toInt64) rfl dL_law_492 ?_
      refine v_lcmp X dL_law_493 ?_
      refine v_if_eq X 499 dL_law_494 (by decide) (fun c_3 => ?_) (fun c_3 => ?_)
      · refine v_goto X 1688 dL_law_499 (by decide) ?_
        refine v_widen (z' := (200 + 8 * (i + 4), 6000 + 64 * (i + 4))) (show 200 + 8 * i + 1 ≤ 200 + 8 * (i + 4) by omega) (show 6000 + 64 * i + 6 ≤ 6000 + 64 * (i + 4) by omega) ?_
        refine v_lv [2, 3, 4, 5, 6] rfl ?_
        exact kk M2 ⟨w2, cs2, ds2, mem2, sl2, tx2, g2, hS2, hR2, F2⟩
      · exact absurd ((lg_cmp_eq _ _).mpr (hg2 c_2)) c_3
  · exact absurd rfl c_1
set_option maxHeartbeats 4000000 in
set_option maxRecDepth 100000 in
theorem lwc_8 {C : CT} {k : KX} {b L i : Nat} {xs : Nat → Int32} {M : Mem} (X : OKc C k cL_law RL 7 ret) (hLC : LCX C b L xs) (hN : 107 ≤ kN k) (hi : i + 3 < L) (hI : LInv k M) (kk : ∀ M', LInv k M' → V C k 7 (200 + 8 * (i + 4), 6000 + 64 * (i + 4)) M' 1688 [(4, .int (nI i)), (3, .ref (ad k 106)), (2, .ref (ad k 93)), (1, .ref (ad k 0)), (0, .ref b)] []) : V C k 7 (200 + 8 * i, 6000 + 64 * i) M 502 [(4, .int (nI i)), (3, .ref (ad k 106)), (2, .ref (ad k 93)), (1, .ref (ad k 0)), (0, .ref b)] [] := by
  obtain ⟨hCR, hst0, ht, hnc, hX, hbl, hbA, hL⟩ := hLC
  obtain ⟨w, cs, ds, mem, sl, tx, g, hSol, hRef, F106⟩ := hI
  have hCl : C_l C = C_l C := rfl
  refine v_aload_n X 3 dL_law_502 rfl ?_
  refine v_aload_n X 4 dL_law_503 rfl ?_
  refine v_iload X 0 dL_law_504 rfl ?_
  refine v_iconst X (v := nI 1) (by decide) dL_law_506 ?_
  refine v_addN X dL_law_507 ?_
  refine v_sld X hX hbl hbA (by omega) (by omega) dL_law_508 ?_
  refine v_aload_n X 4 dL_law_509 rfl ?_
  refine v_iload X 0 dL_law_510 rfl ?_
  refine v_iconst X (v := nI 2) (by decide) dL_law_512 ?_
  refine v_addN X dL_law_513 ?_
  refine v_sld X hX hbl hbA (by omega) (by omega) dL_law_514 ?_
  refine v_aload_n X 1 dL_law_515 rfl ?_
  refine v_callL X ht hnc hCl hCR (c_L_addClause (C_l C) hst0 M g k cs ds mem sl tx (xs (i + 1)) (xs (i + 2)) hN hSol F106) mo_L_addClause m_658 m_783 m_784 m_738 ⟨Nat.le_of_ble_eq_true rfl, Nat.le_of_ble_eq_true rfl⟩ rfl rfl (Nat.le_of_ble_eq_true rfl) ⟨(show 200 + 8 * i + 2 ≤ 601024 by omega), (show 6000 + 64 * i + 12 ≤ 7293034 by omega)⟩ dL_law_516 (vI_in (fun kv M1 h1 => ?_))
  have hf1 := wf_addClause h1
  have hRef1 := hRef.fr hf1
  refine v_istore X [(5, .int kv), (4, .int (nI i)), (3, .ref (ad k 106)), (2, .ref (ad k 93)), (1, .ref (ad k 0)), (0, .ref b)] dL_law_519 (by decide) rfl ?_
  refine v_aload_n X 3 dL_law_521 rfl ?_
  refine v_aload_n X 5 dL_law_522 rfl ?_
  refine v_iload X 1 dL_law_523 rfl ?_
  refine v_iconst X (v := nI 1) (by decide) dL_law_525 ?_
  refine v_addN X dL_law_526 ?_
  refine v_sld X hX hbl hbA (by omega) (by omega) dL_law_527 ?_
  refine v_aload_n X 5 dL_law_528 rfl ?_
  refine v_iload X 1 dL_law_529 rfl ?_
  refine v_iconst X (v := nI 2) (by decide) dL_law_531 ?_
  refine v_addN X dL_law_532 ?_
  refine v_sld X hX hbl hbA (by omega) (by omega) dL_law_533 ?_
  refine v_callV X hCl hCR (c_X8_addClause (C_l C) k M1 w cs ds mem sl tx (xs (i + 1)) (xs (i + 2)) hRef1) cls8 hRef1.obj (by omega) mo_X8_addClause m_556 m_785 m_786 m_787 m_465 ⟨Nat.le_of_ble_eq_true rfl, Nat.le_of_ble_eq_true rfl⟩ rfl rfl (Nat.le_of_ble_eq_true rfl) ⟨rfl, rfl⟩ ⟨(show 200 + 8 * i + 2 ≤ 601024 by omega), (show 6000 + 64 * i + 12 ≤ 7293034 by omega)⟩ dL_law_534 (vI_in (fun bv M2 h2 => ?_))
  obtain ⟨w2, cs2, ds2, mem2, sl2, tx2, g2, hkk, hw3, hS2, hR2, F2, hg2⟩ := mt_addClause F106 hRef h1 h2
  subst hkk
  refine v_istore X [(6, .int bv), (5, .int (nI w2)), (4, .int (nI i)), (3, .ref (ad k 106)), (2, .ref (ad k 93)), (1, .ref (ad k 0)), (0, .ref b)] dL_law_537 (by decide) rfl ?_
  refine v_aload_n X 4 dL_law_539 rfl ?_
  refine v_callV X hCl hCR (c_X8_thrown (C_l C) k M2 w2 cs2 ds2 mem2 sl2 tx2 hR2) cls8 hR2.obj (by omega) mo_X8_thrown m_456 m_742 m_743 m_744 m_465 ⟨Nat.le_of_ble_eq_true rfl, Nat.le_of_ble_eq_true rfl⟩ rfl rfl (Nat.le_of_ble_eq_true rfl) ⟨rfl, rfl⟩ ⟨(show 200 + 8 * i + 2 ≤ 601024 by omega), (show 6000 + 64 * i + 12 ≤ 7293034 by omega)⟩ dL_law_540 (vP_in ?_)
  refine v_iload X 1 dL_law_543 rfl ?_
  refine v_ceqN X 550 (by omega) (by omega) dL_law_545 (by decide) (fun c_1 => ?_) (fun c_1 => ?_)
  · refine v_iload X 1 dL_law_550 rfl ?_
    refine v_ineN X 567 (by omega) dL_law_552 (by decide) (fun c_2 => ?_) (fun c_2 => ?_)
    · refine v_goto X 1688 dL_law_567 (by decide) ?_
      refine v_widen (z' := (200 + 8 * (i + 4), 6000 + 64 * (i + 4))) (show 200 + 8 * i + 2 ≤ 200 + 8 * (i + 4) by omega) (show 6000 + 64 * i + 12 ≤ 6000 + 64 * (i + 4) by omega) ?_
      refine v_lv [2, 3, 4, 5, 6] rfl ?_
      exact kk M2 ⟨w2, cs2, ds2, mem2, sl2, tx2, g2, hS2, hR2, F2⟩
    · refine v_aload_n X 3 dL_law_555 rfl ?_
      refine v_iconst X (v := nI 0) (by decide) dL_law_556 ?_
      refine v_lald X (j := 0) F2 (by omega) (by decide) (by decide) dL_law_557 ?_
      refine v_iload X 0 dL_law_558 rfl ?_
      refine v_i2l X (v := (bv).toInt64) rfl dL_law_560 ?_
      refine v_lcmp X dL_law_561 ?_
      refine v_if_eq X 567 dL_law_562 (by decide) (fun c_3 => ?_) (fun c_3 => ?_)
      · refine v_goto X 1688 dL_law_567 (by decide) ?_
        refine v_widen (z' := (200 + 8 * (i + 4), 6000 + 64 * (i + 4))) (show 200 + 8 * i + 2 ≤ 200 + 8 * (i + 4) by omega) (show 6000 + 64 * i + 12 ≤ 6000 + 64 * (i + 4) by omega) ?_
        refine v_lv [2, 3, 4, 5, 6] rfl ?_
        exact kk M2 ⟨w2, cs2, ds2, mem2, sl2, tx2, g2, hS2, hR2, F2⟩
      · exact absurd ((lg_cmp_eq _ _).mpr (hg2 c_2)) c_3
  · exact absurd rfl c_1
set_option maxHeartbeats 4000000 in
set_option maxRecDepth 100000 in
theorem lwc_9 {C : CT} {k : KX} {b L i : Nat} {xs : Nat → Int32} {M : Mem} (X : OKc C k cL_law RL 7 ret) (hLC : LCX C b L xs) (hN : 107 ≤ kN k) (hi : i + 3 < L) (hI : LInv k M) (kk : ∀ M', LInv k M' → V C k 7 (200 + 8 * (i + 4), 6000 + 64 * (i + 4)) M' 1688 [(4, .int (nI i)), (3, .ref (ad k 106)), (2, .ref (ad k 93)), (1, .ref (ad k 0)), (0, .ref b)] []) : V C k 7 (200 + 8 * i, 6000 + 64 * i) M 570 [(4, .int (nI i)), (3, .ref (ad k 106)), (2, .ref (ad k 93)), (1, .ref (ad k 0)), (0, .ref b)] [] := by
  obtain ⟨hCR, hst0, ht, hnc, hX, hbl, hbA, hL⟩ := hLC
  obtain ⟨w, cs, ds, mem, sl, tx, g, hSol, hRef, F106⟩ := hI
  have hCl : C_l C = C_l C := rfl
  refine v_aload_n X 3 dL_law_570 rfl ?_
  refine v_aload_n X 4 dL_law_571 rfl ?_
  refine v_iload X 0 dL_law_572 rfl ?_
  refine v_iconst X (v := nI 1) (by decide) dL_law_574 ?_
  refine v_addN X dL_law_575 ?_
  refine v_sld X hX hbl hbA (by omega) (by omega) dL_law_576 ?_
  refine v_aload_n X 4 dL_law_577 rfl ?_
  refine v_iload X 0 dL_law_578 rfl ?_
  refine v_iconst X (v := nI 2) (by decide) dL_law_580 ?_
  refine v_addN X dL_law_581 ?_
  refine v_sld X hX hbl hbA (by omega) (by omega) dL_law_582 ?_
  refine v_aload_n X 1 dL_law_583 rfl ?_
  refine v_callL X ht hnc hCl hCR (c_L_addParity (C_l C) hst0 M g k cs ds mem sl tx (xs (i + 1)) (xs (i + 2)) hN hSol F106) mo_L_addParity m_662 m_788 m_789 m_738 ⟨Nat.le_of_ble_eq_true rfl, Nat.le_of_ble_eq_true rfl⟩ rfl rfl (Nat.le_of_ble_eq_true rfl) ⟨(show 200 + 8 * i + 2 ≤ 601024 by omega), (show 6000 + 64 * i + 12 ≤ 7293034 by omega)⟩ dL_law_584 (vI_in (fun kv M1 h1 => ?_))
  have hf1 := wf_addParity h1
  have hRef1 := hRef.fr hf1
  refine v_istore X [(5, .int kv), (4, .int (nI i)), (3, .ref (ad k 106)), (2, .ref (ad k 93)), (1, .ref (ad k 0)), (0, .ref b)] dL_law_587 (by decide) rfl ?_
  refine v_aload_n X 3 dL_law_589 rfl ?_
  refine v_aload_n X 5 dL_law_590 rfl ?_
  refine v_iload X 1 dL_law_591 rfl ?_
  refine v_iconst X (v := nI 1) (by decide) dL_law_593 ?_
  refine v_addN X dL_law_594 ?_
  refine v_sld X hX hbl hbA (by omega) (by omega) dL_law_595 ?_
  refine v_aload_n X 5 dL_law_596 rfl ?_
  refine v_iload X 1 dL_law_597 rfl ?_
  refine v_iconst X (v := nI 2) (by decide) dL_law_599 ?_
  refine v_addN X dL_law_600 ?_
  refine v_sld X hX hbl hbA (by omega) (by omega) dL_law_601 ?_
  refine v_callV X hCl hCR (c_X8_addParity (C_l C) k M1 w cs ds mem sl tx (xs (i + 1)) (xs (i + 2)) hRef1) cls8 hRef1.obj (by omega) mo_X8_addParity m_559 m_790 m_791 m_792 m_465 ⟨Nat.le_of_ble_eq_true rfl, Nat.le_of_ble_eq_true rfl⟩ rfl rfl (Nat.le_of_ble_eq_true rfl) ⟨rfl, rfl⟩ ⟨(show 200 + 8 * i + 2 ≤ 601024 by omega), (show 6000 + 64 * i + 12 ≤ 7293034 by omega)⟩ dL_law_602 (vI_in (fun bv M2 h2 => ?_))
  obtain ⟨w2, cs2, ds2, mem2, sl2, tx2, g2, hkk, hw3, hS2, hR2, F2, hg2⟩ := mt_addParity F106 hRef h1 h2
  subst hkk
  refine v_istore X [(6, .int bv), (5, .int (nI w2)), (4, .int (nI i)), (3, .ref (ad k 106)), (2, .ref (ad k 93)), (1, .ref (ad k 0)), (0, .ref b)] dL_law_605 (by decide) rfl ?_
  refine v_aload_n X 4 dL_law_607 rfl ?_
  refine v_callV X hCl hCR (c_X8_thrown (C_l C) k M2 w2 cs2 ds2 mem2 sl2 tx2 hR2) cls8 hR2.obj (by omega) mo_X8_thrown m_456 m_742 m_743 m_744 m_465 ⟨Nat.le_of_ble_eq_true rfl, Nat.le_of_ble_eq_true rfl⟩ rfl rfl (Nat.le_of_ble_eq_true rfl) ⟨rfl, rfl⟩ ⟨(show 200 + 8 * i + 2 ≤ 601024 by omega), (show 6000 + 64 * i + 12 ≤ 7293034 by omega)⟩ dL_law_608 (vP_in ?_)
  refine v_iload X 1 dL_law_611 rfl ?_
  refine v_ceqN X 618 (by omega) (by omega) dL_law_613 (by decide) (fun c_1 => ?_) (fun c_1 => ?_)
  · refine v_iload X 1 dL_law_618 rfl ?_
    refine v_ineN X 635 (by omega) dL_law_620 (by decide) (fun c_2 => ?_) (fun c_2 => ?_)
    · refine v_goto X 1688 dL_law_635 (by decide) ?_
      refine v_widen (z' := (200 + 8 * (i + 4), 6000 + 64 * (i + 4))) (show 200 + 8 * i + 2 ≤ 200 + 8 * (i + 4) by omega) (show 6000 + 64 * i + 12 ≤ 6000 + 64 * (i + 4) by omega) ?_
      refine v_lv [2, 3, 4, 5, 6] rfl ?_
      exact kk M2 ⟨w2, cs2, ds2, mem2, sl2, tx2, g2, hS2, hR2, F2⟩
    · refine v_aload_n X 3 dL_law_623 rfl ?_
      refine v_iconst X (v := nI 0) (by decide) dL_law_624 ?_
      refine v_lald X (j := 0) F2 (by omega) (by decide) (by decide) dL_law_625 ?_
      refine v_iload X 0 dL_law_626 rfl ?_
      refine v_i2l X (v := (bv).toInt64) rfl dL_law_628 ?_
      refine v_lcmp X dL_law_629 ?_
      refine v_if_eq X 635 dL_law_630 (by decide) (fun c_3 => ?_) (fun c_3 => ?_)
      · refine v_goto X 1688 dL_law_635 (by decide) ?_
        refine v_widen (z' := (200 + 8 * (i + 4), 6000 + 64 * (i + 4))) (show 200 + 8 * i + 2 ≤ 200 + 8 * (i + 4) by omega) (show 6000 + 64 * i + 12 ≤ 6000 + 64 * (i + 4) by omega) ?_
        refine v_lv [2, 3, 4, 5, 6] rfl ?_
        exact kk M2 ⟨w2, cs2, ds2, mem2, sl2, tx2, g2, hS2, hR2, F2⟩
      · exact absurd ((lg_cmp_eq _ _).mpr (hg2 c_2)) c_3
  · exact absurd rfl c_1
set_option maxHeartbeats 4000000 in
set_option maxRecDepth 100000 in
theorem lwc_10 {C : CT} {k : KX} {b L i : Nat} {xs : Nat → Int32} {M : Mem} (X : OKc C k cL_law RL 7 ret) (hLC : LCX C b L xs) (hN : 107 ≤ kN k) (hi : i + 3 < L) (hI : LInv k M) (kk : ∀ M', LInv k M' → V C k 7 (200 + 8 * (i + 4), 6000 + 64 * (i + 4)) M' 1688 [(4, .int (nI i)), (3, .ref (ad k 106)), (2, .ref (ad k 93)), (1, .ref (ad k 0)), (0, .ref b)] []) : V C k 7 (200 + 8 * i, 6000 + 64 * i) M 638 [(4, .int (nI i)), (3, .ref (ad k 106)), (2, .ref (ad k 93)), (1, .ref (ad k 0)), (0, .ref b)] [] := by
  obtain ⟨hCR, hst0, ht, hnc, hX, hbl, hbA, hL⟩ := hLC
  obtain ⟨w, cs, ds, mem, sl, tx, g, hSol, hRef, F106⟩ := hI
  have hCl : C_l C = C_l C := rfl
  refine v_aload_n X 3 dL_law_638 rfl ?_
  refine v_aload_n X 4 dL_law_639 rfl ?_
  refine v_iload X 0 dL_law_640 rfl ?_
  refine v_iconst X (v := nI 1) (by decide) dL_law_642 ?_
  refine v_addN X dL_law_643 ?_
  refine v_sld X hX hbl hbA (by omega) (by omega) dL_law_644 ?_
  refine v_aload_n X 1 dL_law_645 rfl ?_
  refine v_callL X ht hnc hCl hCR (c_L_removeConstraint (C_l C) hst0 M g k cs ds mem sl tx (xs (i + 1)) hN hSol F106) mo_L_removeConstraint m_666 m_793 m_794 m_738 ⟨Nat.le_of_ble_eq_true rfl, Nat.le_of_ble_eq_true rfl⟩ rfl rfl (Nat.le_of_ble_eq_true rfl) ⟨(show 200 + 8 * i + 1 ≤ 601024 by omega), (show 6000 + 64 * i + 6 ≤ 7293034 by omega)⟩ dL_law_646 (vI_in (fun kv M1 h1 => ?_))
  have hf1 := wf_removeConstraint h1
  have hRef1 := hRef.fr hf1
  refine v_istore X [(5, .int kv), (4, .int (nI i)), (3, .ref (ad k 106)), (2, .ref (ad k 93)), (1, .ref (ad k 0)), (0, .ref b)] dL_law_649 (by decide) rfl ?_
  refine v_aload_n X 3 dL_law_651 rfl ?_
  refine v_aload_n X 5 dL_law_652 rfl ?_
  refine v_iload X 1 dL_law_653 rfl ?_
  refine v_iconst X (v := nI 1) (by decide) dL_law_655 ?_
  refine v_addN X dL_law_656 ?_
  refine v_sld X hX hbl hbA (by omega) (by omega) dL_law_657 ?_
  refine v_callV X hCl hCR (c_X8_removeConstraint (C_l C) k M1 w cs ds mem sl tx (xs (i + 1)) hRef1) cls8 hRef1.obj (by omega) mo_X8_removeConstraint m_560 m_795 m_796 m_797 m_465 ⟨Nat.le_of_ble_eq_true rfl, Nat.le_of_ble_eq_true rfl⟩ rfl rfl (Nat.le_of_ble_eq_true rfl) ⟨rfl, rfl⟩ ⟨(show 200 + 8 * i + 1 ≤ 601024 by omega), (show 6000 + 64 * i + 6 ≤ 7293034 by omega)⟩ dL_law_658 (vI_in (fun bv M2 h2 => ?_))
  obtain ⟨w2, cs2, ds2, mem2, sl2, tx2, g2, hkk, hw3, hS2, hR2, F2, hg2⟩ := mt_removeConstraint F106 hRef h1 h2
  subst hkk
  refine v_istore X [(6, .int bv), (5, .int (nI w2)), (4, .int (nI i)), (3, .ref (ad k 106)), (2, .ref (ad k 93)), (1, .ref (ad k 0)), (0, .ref b)] dL_law_661 (by decide) rfl ?_
  refine v_aload_n X 4 dL_law_663 rfl ?_
  refine v_callV X hCl hCR (c_X8_thrown (C_l C) k M2 w2 cs2 ds2 mem2 sl2 tx2 hR2) cls8 hR2.obj (by omega) mo_X8_thrown m_456 m_742 m_743 m_744 m_465 ⟨Nat.le_of_ble_eq_true rfl, Nat.le_of_ble_eq_true rfl⟩ rfl rfl (Nat.le_of_ble_eq_true rfl) ⟨rfl, rfl⟩ ⟨(show 200 + 8 * i + 1 ≤ 601024 by omega), (show 6000 + 64 * i + 6 ≤ 7293034 by omega)⟩ dL_law_664 (vP_in ?_)
  refine v_iload X 1 dL_law_667 rfl ?_
  refine v_ceqN X 674 (by omega) (by omega) dL_law_669 (by decide) (fun c_1 => ?_) (fun c_1 => ?_)
  · refine v_iload X 1 dL_law_674 rfl ?_
    refine v_ineN X 691 (by omega) dL_law_676 (by decide) (fun c_2 => ?_) (fun c_2 => ?_)
    · refine v_goto X 1688 dL_law_691 (by decide) ?_
      refine v_widen (z' := (200 + 8 * (i + 4), 6000 + 64 * (i + 4))) (show 200 + 8 * i + 1 ≤ 200 + 8 * (i + 4) by omega) (show 6000 + 64 * i + 6 ≤ 6000 + 64 * (i + 4) by omega) ?_
      refine v_lv [2, 3, 4, 5, 6] rfl ?_
      exact kk M2 ⟨w2, cs2, ds2, mem2, sl2, tx2, g2, hS2, hR2, F2⟩
    · refine v_aload_n X 3 dL_law_679 rfl ?_
      refine v_iconst X (v := nI 0) (by decide) dL_law_680 ?_
      refine v_lald X (j := 0) F2 (by omega) (by decide) (by decide) dL_law_681 ?_
      refine v_iload X 0 dL_law_682 rfl ?_
      refine v_i2l X (v := (bv).toInt64) rfl dL_law_684 ?_
      refine v_lcmp X dL_law_685 ?_
      refine v_if_eq X 691 dL_law_686 (by decide) (fun c_3 => ?_) (fun c_3 => ?_)
      · refine v_goto X 1688 dL_law_691 (by decide) ?_
        refine v_widen (z' := (200 + 8 * (i + 4), 6000 + 64 * (i + 4))) (show 200 + 8 * i + 1 ≤ 200 + 8 * (i + 4) by omega) (show 6000 + 64 * i + 6 ≤ 6000 + 64 * (i + 4) by omega) ?_
        refine v_lv [2, 3, 4, 5, 6] rfl ?_
        exact kk M2 ⟨w2, cs2, ds2, mem2, sl2, tx2, g2, hS2, hR2, F2⟩
      · exact absurd ((lg_cmp_eq _ _).mpr (hg2 c_2)) c_3
  · exact absurd rfl c_1
set_option maxHeartbeats 4000000 in
set_option maxRecDepth 100000 in
theorem lwc_11 {C : CT} {k : KX} {b L i : Nat} {xs : Nat → Int32} {M : Mem} (X : OKc C k cL_law RL 7 ret) (hLC : LCX C b L xs) (hN : 107 ≤ kN k) (hi : i + 3 < L) (hI : LInv k M) (kk : ∀ M', LInv k M' → V C k 7 (200 + 8 * (i + 4), 6000 + 64 * (i + 4)) M' 1688 [(4, .int (nI i)), (3, .ref (ad k 106)), (2, .ref (ad k 93)), (1, .ref (ad k 0)), (0, .ref b)] []) : V C k 7 (200 + 8 * i, 6000 + 64 * i) M 694 [(4, .int (nI i)), (3, .ref (ad k 106)), (2, .ref (ad k 93)), (1, .ref (ad k 0)), (0, .ref b)] [] := by
  obtain ⟨hCR, hst0, ht, hnc, hX, hbl, hbA, hL⟩ := hLC
  obtain ⟨w, cs, ds, mem, sl, tx, g, hSol, hRef, F106⟩ := hI
  have hCl : C_l C = C_l C := rfl
  refine v_aload_n X 3 dL_law_694 rfl ?_
  refine v_aload_n X 4 dL_law_695 rfl ?_
  refine v_iload X 0 dL_law_696 rfl ?_
  refine v_iconst X (v := nI 1) (by decide) dL_law_698 ?_
  refine v_addN X dL_law_699 ?_
  refine v_sld X hX hbl hbA (by omega) (by omega) dL_law_700 ?_
  refine v_aload_n X 4 dL_law_701 rfl ?_
  refine v_iload X 0 dL_law_702 rfl ?_
  refine v_iconst X (v := nI 2) (by decide) dL_law_704 ?_
  refine v_addN X dL_law_705 ?_
  refine v_sld X hX hbl hbA (by omega) (by omega) dL_law_706 ?_
  refine v_aload_n X 4 dL_law_707 rfl ?_
  refine v_iload X 0 dL_law_708 rfl ?_
  refine v_iconst X (v := nI 3) (by decide) dL_law_710 ?_
  refine v_addN X dL_law_711 ?_
  refine v_sld X hX hbl hbA (by omega) (by omega) dL_law_712 ?_
  refine v_aload_n X 1 dL_law_713 rfl ?_
  refine v_callL X ht hnc hCl hCR (c_L_resolve (C_l C) hst0 M g k cs ds mem sl tx (xs (i + 1)) (xs (i + 2)) (xs (i + 3)) hN hSol F106) mo_L_resolve m_670 m_798 m_799 m_738 ⟨Nat.le_of_ble_eq_true rfl, Nat.le_of_ble_eq_true rfl⟩ rfl rfl (Nat.le_of_ble_eq_true rfl) ⟨(show 200 + 8 * i + 5 ≤ 601024 by omega), (show 6000 + 64 * i + 30 ≤ 7293034 by omega)⟩ dL_law_714 (vI_in (fun kv M1 h1 => ?_))
  have hf1 := wf_resolve h1
  have hRef1 := hRef.fr hf1
  refine v_istore X [(5, .int kv), (4, .int (nI i)), (3, .ref (ad k 106)), (2, .ref (ad k 93)), (1, .ref (ad k 0)), (0, .ref b)] dL_law_717 (by decide) rfl ?_
  refine v_aload_n X 3 dL_law_719 rfl ?_
  refine v_aload_n X 5 dL_law_720 rfl ?_
  refine v_iload X 1 dL_law_721 rfl ?_
  refine v_iconst X (v := nI 1) (by decide) dL_law_723 ?_
  refine v_addN X dL_law_724 ?_
  refine v_sld X hX hbl hbA (by omega) (by omega) dL_law_725 ?_
  refine v_aload_n X 5 dL_law_726 rfl ?_
  refine v_iload X 1 dL_law_727 rfl ?_
  refine v_iconst X (v := nI 2) (by decide) dL_law_729 ?_
  refine v_addN X dL_law_730 ?_
  refine v_sld X hX hbl hbA (by omega) (by omega) dL_law_731 ?_
  refine v_aload_n X 5 dL_law_732 rfl ?_
  refine v_iload X 1 dL_law_733 rfl ?_
  refine v_iconst X (v := nI 3) (by decide) dL_law_735 ?_
  refine v_addN X dL_law_736 ?_
  refine v_sld X hX hbl hbA (by omega) (by omega) dL_law_737 ?_
  refine v_callV X hCl hCR (c_X8_resolve (C_l C) k M1 w cs ds mem sl tx (xs (i + 1)) (xs (i + 2)) (xs (i + 3)) hRef1) cls8 hRef1.obj (by omega) mo_X8_resolve m_562 m_800 m_801 m_802 m_465 ⟨Nat.le_of_ble_eq_true rfl, Nat.le_of_ble_eq_true rfl⟩ rfl rfl (Nat.le_of_ble_eq_true rfl) ⟨rfl, rfl⟩ ⟨(show 200 + 8 * i + 5 ≤ 601024 by omega), (show 6000 + 64 * i + 30 ≤ 7293034 by omega)⟩ dL_law_738 (vI_in (fun bv M2 h2 => ?_))
  obtain ⟨w2, cs2, ds2, mem2, sl2, tx2, g2, hkk, hw3, hS2, hR2, F2, hg2⟩ := mt_resolve F106 hRef h1 h2
  subst hkk
  refine v_istore X [(6, .int bv), (5, .int (nI w2)), (4, .int (nI i)), (3, .ref (ad k 106)), (2, .ref (ad k 93)), (1, .ref (ad k 0)), (0, .ref b)] dL_law_741 (by decide) rfl ?_
  refine v_aload_n X 4 dL_law_743 rfl ?_
  refine v_callV X hCl hCR (c_X8_thrown (C_l C) k M2 w2 cs2 ds2 mem2 sl2 tx2 hR2) cls8 hR2.obj (by omega) mo_X8_thrown m_456 m_742 m_743 m_744 m_465 ⟨Nat.le_of_ble_eq_true rfl, Nat.le_of_ble_eq_true rfl⟩ rfl rfl (Nat.le_of_ble_eq_true rfl) ⟨rfl, rfl⟩ ⟨(show 200 + 8 * i + 5 ≤ 601024 by omega), (show 6000 + 64 * i + 30 ≤ 7293034 by omega)⟩ dL_law_744 (vP_in ?_)
  refine v_iload X 1 dL_law_747 rfl ?_
  refine v_ceqN X 754 (by omega) (by omega) dL_law_749 (by decide) (fun c_1 => ?_) (fun c_1 => ?_)
  · refine v_iload X 1 dL_law_754 rfl ?_
    refine v_ineN X 771 (by omega) dL_law_756 (by decide) (fun c_2 => ?_) (fun c_2 => ?_)
    · refine v_goto X 1688 dL_law_771 (by decide) ?_
      refine v_widen (z' := (200 + 8 * (i + 4), 6000 + 64 * (i + 4))) (show 200 + 8 * i + 5 ≤ 200 + 8 * (i + 4) by omega) (show 6000 + 64 * i + 30 ≤ 6000 + 64 * (i + 4) by omega) ?_
      refine v_lv [2, 3, 4, 5, 6] rfl ?_
      exact kk M2 ⟨w2, cs2, ds2, mem2, sl2, tx2, g2, hS2, hR2, F2⟩
    · refine v_aload_n X 3 dL_law_759 rfl ?_
      refine v_iconst X (v := nI 0) (by decide) dL_law_760 ?_
      refine v_lald X (j := 0) F2 (by omega) (by decide) (by decide) dL_law_761 ?_
      refine v_iload X 0 dL_law_762 rfl ?_
      refine v_i2l X (v := (bv).toInt64) rfl dL_law_764 ?_
      refine v_lcmp X dL_law_765 ?_
      refine v_if_eq X 771 dL_law_766 (by decide) (fun c_3 => ?_) (fun c_3 => ?_)
      · refine v_goto X 1688 dL_law_771 (by decide) ?_
        refine v_widen (z' := (200 + 8 * (i + 4), 6000 + 64 * (i + 4))) (show 200 + 8 * i + 5 ≤ 200 + 8 * (i + 4) by omega) (show 6000 + 64 * i + 30 ≤ 6000 + 64 * (i + 4) by omega) ?_
        refine v_lv [2, 3, 4, 5, 6] rfl ?_
        exact kk M2 ⟨w2, cs2, ds2, mem2, sl2, tx2, g2, hS2, hR2, F2⟩
      · exact absurd ((lg_cmp_eq _ _).mpr (hg2 c_2)) c_3
  · exact absurd rfl c_1
set_option maxHeartbeats 4000000 in
set_option maxRecDepth 100000 in
theorem lwc_12 {C : CT} {k : KX} {b L i : Nat} {xs : Nat → Int32} {M : Mem} (X : OKc C k cL_law RL 7 ret) (hLC : LCX C b L xs) (hN : 107 ≤ kN k) (hi : i + 3 < L) (hI : LInv k M) (kk : ∀ M', LInv k M' → V C k 7 (200 + 8 * (i + 4), 6000 + 64 * (i + 4)) M' 1688 [(4, .int (nI i)), (3, .ref (ad k 106)), (2, .ref (ad k 93)), (1, .ref (ad k 0)), (0, .ref b)] []) : V C k 7 (200 + 8 * i, 6000 + 64 * i) M 774 [(4, .int (nI i)), (3, .ref (ad k 106)), (2, .ref (ad k 93)), (1, .ref (ad k 0)), (0, .ref b)] [] := by
  obtain ⟨hCR, hst0, ht, hnc, hX, hbl, hbA, hL⟩ := hLC
  obtain ⟨w, cs, ds, mem, sl, tx, g, hSol, hRef, F106⟩ := hI
  have hCl : C_l C = C_l C := rfl
  refine v_aload_n X 3 dL_law_774 rfl ?_
  refine v_aload_n X 4 dL_law_775 rfl ?_
  refine v_iload X 0 dL_law_776 rfl ?_
  refine v_iconst X (v := nI 1) (by decide) dL_law_778 ?_
  refine v_addN X dL_law_779 ?_
  refine v_sld X hX hbl hbA (by omega) (by omega) dL_law_780 ?_
  refine v_aload_n X 4 dL_law_781 rfl ?_
  refine v_iload X 0 dL_law_782 rfl ?_
  refine v_iconst X (v := nI 2) (by decide) dL_law_784 ?_
  refine v_addN X dL_law_785 ?_
  refine v_sld X hX hbl hbA (by omega) (by omega) dL_law_786 ?_
  refine v_aload_n X 1 dL_law_787 rfl ?_
  refine v_callL X ht hnc hCl hCR (c_L_sum (C_l C) hst0 M g k cs ds mem sl tx (xs (i + 1)) (xs (i + 2)) hN hSol F106) mo_L_sum m_674 m_803 m_804 m_738 ⟨Nat.le_of_ble_eq_true rfl, Nat.le_of_ble_eq_true rfl⟩ rfl rfl (Nat.le_of_ble_eq_true rfl) ⟨(show 200 + 8 * i + 4 ≤ 601024 by omega), (show 6000 + 64 * i + 24 ≤ 7293034 by omega)⟩ dL_law_788 (vI_in (fun kv M1 h1 => ?_))
  have hf1 := wf_sum h1
  have hRef1 := hRef.fr hf1
  refine v_istore X [(5, .int kv), (4, .int (nI i)), (3, .ref (ad k 106)), (2, .ref (ad k 93)), (1, .ref (ad k 0)), (0, .ref b)] dL_law_791 (by decide) rfl ?_
  refine v_aload_n X 3 dL_law_793 rfl ?_
  refine v_aload_n X 5 dL_law_794 rfl ?_
  refine v_iload X 1 dL_law_795 rfl ?_
  refine v_iconst X (v := nI 1) (by decide) dL_law_797 ?_
  refine v_addN X dL_law_798 ?_
  refine v_sld X hX hbl hbA (by omega) (by omega) dL_law_799 ?_
  refine v_aload_n X 5 dL_law_800 rfl ?_
  refine v_iload X 1 dL_law_801 rfl ?_
  refine v_iconst X (v := nI 2) (by decide) dL_law_803 ?_
  refine v_addN X dL_law_804 ?_
  refine v_sld X hX hbl hbA (by omega) (by omega) dL_law_805 ?_
  refine v_callV X hCl hCR (c_X8_sum (C_l C) k M1 w cs ds mem sl tx (xs (i + 1)) (xs (i + 2)) hRef1) cls8 hRef1.obj (by omega) mo_X8_sum m_563 m_805 m_806 m_807 m_465 ⟨Nat.le_of_ble_eq_true rfl, Nat.le_of_ble_eq_true rfl⟩ rfl rfl (Nat.le_of_ble_eq_true rfl) ⟨rfl, rfl⟩ ⟨(show 200 + 8 * i + 4 ≤ 601024 by omega), (show 6000 + 64 * i + 24 ≤ 7293034 by omega)⟩ dL_law_806 (vI_in (fun bv M2 h2 => ?_))
  obtain ⟨w2, cs2, ds2, mem2, sl2, tx2, g2, hkk, hw3, hS2, hR2, F2, hg2⟩ := mt_sum F106 hRef h1 h2
  subst hkk
  refine v_istore X [(6, .int bv), (5, .int (nI w2)), (4, .int (nI i)), (3, .ref (ad k 106)), (2, .ref (ad k 93)), (1, .ref (ad k 0)), (0, .ref b)] dL_law_809 (by decide) rfl ?_
  refine v_aload_n X 4 dL_law_811 rfl ?_
  refine v_callV X hCl hCR (c_X8_thrown (C_l C) k M2 w2 cs2 ds2 mem2 sl2 tx2 hR2) cls8 hR2.obj (by omega) mo_X8_thrown m_456 m_742 m_743 m_744 m_465 ⟨Nat.le_of_ble_eq_true rfl, Nat.le_of_ble_eq_true rfl⟩ rfl rfl (Nat.le_of_ble_eq_true rfl) ⟨rfl, rfl⟩ ⟨(show 200 + 8 * i + 4 ≤ 601024 by omega), (show 6000 + 64 * i + 24 ≤ 7293034 by omega)⟩ dL_law_812 (vP_in ?_)
  refine v_iload X 1 dL_law_815 rfl ?_
  refine v_ceqN X 822 (by omega) (by omega) dL_law_817 (by decide) (fun c_1 => ?_) (fun c_1 => ?_)
  · refine v_iload X 1 dL_law_822 rfl ?_
    refine v_ineN X 839 (by omega) dL_law_824 (by decide) (fun c_2 => ?_) (fun c_2 => ?_)
    · refine v_goto X 1688 dL_law_839 (by decide) ?_
      refine v_widen (z' := (200 + 8 * (i + 4), 6000 + 64 * (i + 4))) (show 200 + 8 * i + 4 ≤ 200 + 8 * (i + 4) by omega) (show 6000 + 64 * i + 24 ≤ 6000 + 64 * (i + 4) by omega) ?_
      refine v_lv [2, 3, 4, 5, 6] rfl ?_
      exact kk M2 ⟨w2, cs2, ds2, mem2, sl2, tx2, g2, hS2, hR2, F2⟩
    · refine v_aload_n X 3 dL_law_827 rfl ?_
      refine v_iconst X (v := nI 0) (by decide) dL_law_828 ?_
      refine v_lald X (j := 0) F2 (by omega) (by decide) (by decide) dL_law_829 ?_
      refine v_iload X 0 dL_law_830 rfl ?_
      refine v_i2l X (v := (bv).toInt64) rfl dL_law_832 ?_
      refine v_lcmp X dL_law_833 ?_
      refine v_if_eq X 839 dL_law_834 (by decide) (fun c_3 => ?_) (fun c_3 => ?_)
      · refine v_goto X 1688 dL_law_839 (by decide) ?_
        refine v_widen (z' := (200 + 8 * (i + 4), 6000 + 64 * (i + 4))) (show 200 + 8 * i + 4 ≤ 200 + 8 * (i + 4) by omega) (show 6000 + 64 * i + 24 ≤ 6000 + 64 * (i + 4) by omega) ?_
        refine v_lv [2, 3, 4, 5, 6] rfl ?_
        exact kk M2 ⟨w2, cs2, ds2, mem2, sl2, tx2, g2, hS2, hR2, F2⟩
      · exact absurd ((lg_cmp_eq _ _).mpr (hg2 c_2)) c_3
  · exact absurd rfl c_1
set_option maxHeartbeats 4000000 in
set_option maxRecDepth 100000 in
theorem lwc_13 {C : CT} {k : KX} {b L i : Nat} {xs : Nat → Int32} {M : Mem} (X : OKc C k cL_law RL 7 ret) (hLC : LCX C b L xs) (hN : 107 ≤ kN k) (hi : i + 3 < L) (hI : LInv k M) (kk : ∀ M', LInv k M' → V C k 7 (200 + 8 * (i + 4), 6000 + 64 * (i + 4)) M' 1688 [(4, .int (nI i)), (3, .ref (ad k 106)), (2, .ref (ad k 93)), (1, .ref (ad k 0)), (0, .ref b)] []) : V C k 7 (200 + 8 * i, 6000 + 64 * i) M 842 [(4, .int (nI i)), (3, .ref (ad k 106)), (2, .ref (ad k 93)), (1, .ref (ad k 0)), (0, .ref b)] [] := by
  obtain ⟨hCR, hst0, ht, hnc, hX, hbl, hbA, hL⟩ := hLC
  obtain ⟨w, cs, ds, mem, sl, tx, g, hSol, hRef, F106⟩ := hI
  have hCl : C_l C = C_l C := rfl
  refine v_aload_n X 3 dL_law_842 rfl ?_
  refine v_aload_n X 4 dL_law_843 rfl ?_
  refine v_iload X 0 dL_law_844 rfl ?_
  refine v_iconst X (v := nI 1) (by decide) dL_law_846 ?_
  refine v_addN X dL_law_847 ?_
  refine v_sld X hX hbl hbA (by omega) (by omega) dL_law_848 ?_
  refine v_aload_n X 1 dL_law_849 rfl ?_
  refine v_callL X ht hnc hCl hCR (c_L_decide (C_l C) hst0 M g k cs ds mem sl tx (xs (i + 1)) hN hSol F106) mo_L_decide m_678 m_808 m_809 m_738 ⟨Nat.le_of_ble_eq_true rfl, Nat.le_of_ble_eq_true rfl⟩ rfl rfl (Nat.le_of_ble_eq_true rfl) ⟨(show 200 + 8 * i + 1 ≤ 601024 by omega), (show 6000 + 64 * i + 6 ≤ 7293034 by omega)⟩ dL_law_850 (vI_in (fun kv M1 h1 => ?_))
  have hf1 := wf_decide h1
  have hRef1 := hRef.fr hf1
  refine v_istore X [(5, .int kv), (4, .int (nI i)), (3, .ref (ad k 106)), (2, .ref (ad k 93)), (1, .ref (ad k 0)), (0, .ref b)] dL_law_853 (by decide) rfl ?_
  refine v_aload_n X 3 dL_law_855 rfl ?_
  refine v_aload_n X 5 dL_law_856 rfl ?_
  refine v_iload X 1 dL_law_857 rfl ?_
  refine v_iconst X (v := nI 1) (by decide) dL_law_859 ?_
  refine v_addN X dL_law_860 ?_
  refine v_sld X hX hbl hbA (by omega) (by omega) dL_law_861 ?_
  refine v_callV X hCl hCR (c_X8_decide (C_l C) k M1 w cs ds mem sl tx (xs (i + 1)) hRef1) cls8 hRef1.obj (by omega) mo_X8_decide m_565 m_810 m_811 m_812 m_465 ⟨Nat.le_of_ble_eq_true rfl, Nat.le_of_ble_eq_true rfl⟩ rfl rfl (Nat.le_of_ble_eq_true rfl) ⟨rfl, rfl⟩ ⟨(show 200 + 8 * i + 1 ≤ 601024 by omega), (show 6000 + 64 * i + 6 ≤ 7293034 by omega)⟩ dL_law_862 (vI_in (fun bv M2 h2 => ?_))
  obtain ⟨w2, cs2, ds2, mem2, sl2, tx2, g2, hkk, hw3, hS2, hR2, F2, hg2⟩ := mt_decide F106 hRef h1 h2
  subst hkk
  refine v_istore X [(6, .int bv), (5, .int (nI w2)), (4, .int (nI i)), (3, .ref (ad k 106)), (2, .ref (ad k 93)), (1, .ref (ad k 0)), (0, .ref b)] dL_law_865 (by decide) rfl ?_
  refine v_aload_n X 4 dL_law_867 rfl ?_
  refine v_callV X hCl hCR (c_X8_thrown (C_l C) k M2 w2 cs2 ds2 mem2 sl2 tx2 hR2) cls8 hR2.obj (by omega) mo_X8_thrown m_456 m_742 m_743 m_744 m_465 ⟨Nat.le_of_ble_eq_true rfl, Nat.le_of_ble_eq_true rfl⟩ rfl rfl (Nat.le_of_ble_eq_true rfl) ⟨rfl, rfl⟩ ⟨(show 200 + 8 * i + 1 ≤ 601024 by omega), (show 6000 + 64 * i + 6 ≤ 7293034 by omega)⟩ dL_law_868 (vP_in ?_)
  refine v_iload X 1 dL_law_871 rfl ?_
  refine v_ceqN X 878 (by omega) (by omega) dL_law_873 (by decide) (fun c_1 => ?_) (fun c_1 => ?_)
  · refine v_iload X 1 dL_law_878 rfl ?_
    refine v_ineN X 895 (by omega) dL_law_880 (by decide) (fun c_2 => ?_) (fun c_2 => ?_)
    · refine v_goto X 1688 dL_law_895 (by decide) ?_
      refine v_widen (z' := (200 + 8 * (i + 4), 6000 + 64 * (i + 4))) (show 200 + 8 * i + 1 ≤ 200 + 8 * (i + 4) by omega) (show 6000 + 64 * i + 6 ≤ 6000 + 64 * (i + 4) by omega) ?_
      refine v_lv [2, 3, 4, 5, 6] rfl ?_
      exact kk M2 ⟨w2, cs2, ds2, mem2, sl2, tx2, g2, hS2, hR2, F2⟩
    · refine v_aload_n X 3 dL_law_883 rfl ?_
      refine v_iconst X (v := nI 0) (by decide) dL_law_884 ?_
      refine v_lald X (j := 0) F2 (by omega) (by decide) (by decide) dL_law_885 ?_
      refine v_iload X 0 dL_law_886 rfl ?_
      refine v_i2l X (v := (bv).toInt64) rfl dL_law_888 ?_
      refine v_lcmp X dL_law_889 ?_
      refine v_if_eq X 895 dL_law_890 (by decide) (fun c_3 => ?_) (fun c_3 => ?_)
      · refine v_goto X 1688 dL_law_895 (by decide) ?_
        refine v_widen (z' := (200 + 8 * (i + 4), 6000 + 64 * (i + 4))) (show 200 + 8 * i + 1 ≤ 200 + 8 * (i + 4) by omega) (show 6000 + 64 * i + 6 ≤ 6000 + 64 * (i + 4) by omega) ?_
        refine v_lv [2, 3, 4, 5, 6] rfl ?_
        exact kk M2 ⟨w2, cs2, ds2, mem2, sl2, tx2, g2, hS2, hR2, F2⟩
      · exact absurd ((lg_cmp_eq _ _).mpr (hg2 c_2)) c_3
  · exact absurd rfl c_1
set_option maxHeartbeats 4000000 in
set_option maxRecDepth 100000 in
theorem lwc_14 {C : CT} {k : KX} {b L i : Nat} {xs : Nat → Int32} {M : Mem} (X : OKc C k cL_law RL 7 ret) (hLC : LCX C b L xs) (hN : 107 ≤ kN k) (hi : i + 3 < L) (hI : LInv k M) (kk : ∀ M', LInv k M' → V C k 7 (200 + 8 * (i + 4), 6000 + 64 * (i + 4)) M' 1688 [(4, .int (nI i)), (3, .ref (ad k 106)), (2, .ref (ad k 93)), (1, .ref (ad k 0)), (0, .ref b)] []) : V C k 7 (200 + 8 * i, 6000 + 64 * i) M 898 [(4, .int (nI i)), (3, .ref (ad k 106)), (2, .ref (ad k 93)), (1, .ref (ad k 0)), (0, .ref b)] [] := by
  obtain ⟨hCR, hst0, ht, hnc, hX, hbl, hbA, hL⟩ := hLC
  obtain ⟨w, cs, ds, mem, sl, tx, g, hSol, hRef, F106⟩ := hI
  have hCl : C_l C = C_l C := rfl
  refine v_aload_n X 3 dL_law_898 rfl ?_
  refine v_aload_n X 4 dL_law_899 rfl ?_
  refine v_iload X 0 dL_law_900 rfl ?_
  refine v_iconst X (v := nI 1) (by decide) dL_law_902 ?_
  refine v_addN X dL_law_903 ?_
  refine v_sld X hX hbl hbA (by omega) (by omega) dL_law_904 ?_
  refine v_aload_n X 1 dL_law_905 rfl ?_
  refine v_callL X ht hnc hCl hCR (c_L_backtrack (C_l C) hst0 M g k cs ds mem sl tx (xs (i + 1)) hN hSol F106) mo_L_backtrack m_682 m_813 m_814 m_738 ⟨Nat.le_of_ble_eq_true rfl, Nat.le_of_ble_eq_true rfl⟩ rfl rfl (Nat.le_of_ble_eq_true rfl) ⟨(show 200 + 8 * i + 1 ≤ 601024 by omega), (show 6000 + 64 * i + 6 ≤ 7293034 by omega)⟩ dL_law_906 (vI_in (fun kv M1 h1 => ?_))
  have hf1 := wf_backtrack h1
  have hRef1 := hRef.fr hf1
  refine v_istore X [(5, .int kv), (4, .int (nI i)), (3, .ref (ad k 106)), (2, .ref (ad k 93)), (1, .ref (ad k 0)), (0, .ref b)] dL_law_909 (by decide) rfl ?_
  refine v_aload_n X 3 dL_law_911 rfl ?_
  refine v_aload_n X 5 dL_law_912 rfl ?_
  refine v_iload X 1 dL_law_913 rfl ?_
  refine v_iconst X (v := nI 1) (by decide) dL_law_915 ?_
  refine v_addN X dL_law_916 ?_
  refine v_sld X hX hbl hbA (by omega) (by omega) dL_law_917 ?_
  refine v_callV X hCl hCR (c_X8_backtrack (C_l C) k M1 w cs ds mem sl tx (xs (i + 1)) hRef1) cls8 hRef1.obj (by omega) mo_X8_backtrack m_566 m_815 m_816 m_817 m_465 ⟨Nat.le_of_ble_eq_true rfl, Nat.le_of_ble_eq_true rfl⟩ rfl rfl (Nat.le_of_ble_eq_true rfl) ⟨rfl, rfl⟩ ⟨(show 200 + 8 * i + 1 ≤ 601024 by omega), (show 6000 + 64 * i + 6 ≤ 7293034 by omega)⟩ dL_law_918 (vI_in (fun bv M2 h2 => ?_))
  obtain ⟨w2, cs2, ds2, mem2, sl2, tx2, g2, hkk, hw3, hS2, hR2, F2, hg2⟩ := mt_backtrack F106 hRef h1 h2
  subst hkk
  refine v_istore X [(6, .int bv), (5, .int (nI w2)), (4, .int (nI i)), (3, .ref (ad k 106)), (2, .ref (ad k 93)), (1, .ref (ad k 0)), (0, .ref b)] dL_law_921 (by decide) rfl ?_
  refine v_aload_n X 4 dL_law_923 rfl ?_
  refine v_callV X hCl hCR (c_X8_thrown (C_l C) k M2 w2 cs2 ds2 mem2 sl2 tx2 hR2) cls8 hR2.obj (by omega) mo_X8_thrown m_456 m_742 m_743 m_744 m_465 ⟨Nat.le_of_ble_eq_true rfl, Nat.le_of_ble_eq_true rfl⟩ rfl rfl (Nat.le_of_ble_eq_true rfl) ⟨rfl, rfl⟩ ⟨(show 200 + 8 * i + 1 ≤ 601024 by omega), (show 6000 + 64 * i + 6 ≤ 7293034 by omega)⟩ dL_law_924 (vP_in ?_)
  refine v_iload X 1 dL_law_927 rfl ?_
  refine v_ceqN X 934 (by omega) (by omega) dL_law_929 (by decide) (fun c_1 => ?_) (fun c_1 => ?_)
  · refine v_iload X 1 dL_law_934 rfl ?_
    refine v_ineN X 951 (by omega) dL_law_936 (by decide) (fun c_2 => ?_) (fun c_2 => ?_)
    · refine v_goto X 1688 dL_law_951 (by decide) ?_
      refine v_widen (z' := (200 + 8 * (i + 4), 6000 + 64 * (i + 4))) (show 200 + 8 * i + 1 ≤ 200 + 8 * (i + 4) by omega) (show 6000 + 64 * i + 6 ≤ 6000 + 64 * (i + 4) by omega) ?_
      refine v_lv [2, 3, 4, 5, 6] rfl ?_
      exact kk M2 ⟨w2, cs2, ds2, mem2, sl2, tx2, g2, hS2, hR2, F2⟩
    · refine v_aload_n X 3 dL_law_939 rfl ?_
      refine v_iconst X (v := nI 0) (by decide) dL_law_940 ?_
      refine v_lald X (j := 0) F2 (by omega) (by decide) (by decide) dL_law_941 ?_
      refine v_iload X 0 dL_law_942 rfl ?_
      refine v_i2l X (v := (bv).toInt64) rfl dL_law_944 ?_
      refine v_lcmp X dL_law_945 ?_
      refine v_if_eq X 951 dL_law_946 (by decide) (fun c_3 => ?_) (fun c_3 => ?_)
      · refine v_goto X 1688 dL_law_951 (by decide) ?_
        refine v_widen (z' := (200 + 8 * (i + 4), 6000 + 64 * (i + 4))) (show 200 + 8 * i + 1 ≤ 200 + 8 * (i + 4) by omega) (show 6000 + 64 * i + 6 ≤ 6000 + 64 * (i + 4) by omega) ?_
        refine v_lv [2, 3, 4, 5, 6] rfl ?_
        exact kk M2 ⟨w2, cs2, ds2, mem2, sl2, tx2, g2, hS2, hR2, F2⟩
      · exact absurd ((lg_cmp_eq _ _).mpr (hg2 c_2)) c_3
  · exact absurd rfl c_1
set_option maxHeartbeats 4000000 in
set_option maxRecDepth 100000 in
theorem lwc_15 {C : CT} {k : KX} {b L i : Nat} {xs : Nat → Int32} {M : Mem} (X : OKc C k cL_law RL 7 ret) (hLC : LCX C b L xs) (hN : 107 ≤ kN k) (hi : i + 3 < L) (hI : LInv k M) (kk : ∀ M', LInv k M' → V C k 7 (200 + 8 * (i + 4), 6000 + 64 * (i + 4)) M' 1688 [(4, .int (nI i)), (3, .ref (ad k 106)), (2, .ref (ad k 93)), (1, .ref (ad k 0)), (0, .ref b)] []) : V C k 7 (200 + 8 * i, 6000 + 64 * i) M 954 [(4, .int (nI i)), (3, .ref (ad k 106)), (2, .ref (ad k 93)), (1, .ref (ad k 0)), (0, .ref b)] [] := by
  obtain ⟨hCR, hst0, ht, hnc, hX, hbl, hbA, hL⟩ := hLC
  obtain ⟨w, cs, ds, mem, sl, tx, g, hSol, hRef, F106⟩ := hI
  have hCl : C_l C = C_l C := rfl
  refine v_aload_n X 3 dL_law_954 rfl ?_
  refine v_aload_n X 1 dL_law_955 rfl ?_
  refine v_callL X ht hnc hCl hCR (c_L_learn (C_l C) hst0 M g k cs ds mem sl tx  hN hSol F106) mo_L_learn m_686 m_818 m_819 m_738 ⟨Nat.le_of_ble_eq_true rfl, Nat.le_of_ble_eq_true rfl⟩ rfl rfl (Nat.le_of_ble_eq_true rfl) ⟨(show 200 + 8 * i + 2 ≤ 601024 by omega), (show 6000 + 64 * i + 12 ≤ 7293034 by omega)⟩ dL_law_956 (vI_in (fun kv M1 h1 => ?_))
  have hf1 := wf_learn h1
  have hRef1 := hRef.fr hf1
  refine v_istore X [(5, .int kv), (4, .int (nI i)), (3, .ref (ad k 106)), (2, .ref (ad k 93)), (1, .ref (ad k 0)), (0, .ref b)] dL_law_959 (by decide) rfl ?_
  refine v_aload_n X 3 dL_law_961 rfl ?_
  refine v_callV X hCl hCR (c_X8_learn (C_l C) k M1 w cs ds mem sl tx  hRef1) cls8 hRef1.obj (by omega) mo_X8_learn m_585 m_820 m_821 m_822 m_465 ⟨Nat.le_of_ble_eq_true rfl, Nat.le_of_ble_eq_true rfl⟩ rfl rfl (Nat.le_of_ble_eq_true rfl) ⟨rfl, rfl⟩ ⟨(show 200 + 8 * i + 2 ≤ 601024 by omega), (show 6000 + 64 * i + 12 ≤ 7293034 by omega)⟩ dL_law_962 (vI_in (fun bv M2 h2 => ?_))
  obtain ⟨w2, cs2, ds2, mem2, sl2, tx2, g2, hkk, hw3, hS2, hR2, F2, hg2⟩ := mt_learn F106 hRef h1 h2
  subst hkk
  refine v_istore X [(6, .int bv), (5, .int (nI w2)), (4, .int (nI i)), (3, .ref (ad k 106)), (2, .ref (ad k 93)), (1, .ref (ad k 0)), (0, .ref b)] dL_law_965 (by decide) rfl ?_
  refine v_aload_n X 4 dL_law_967 rfl ?_
  refine v_callV X hCl hCR (c_X8_thrown (C_l C) k M2 w2 cs2 ds2 mem2 sl2 tx2 hR2) cls8 hR2.obj (by omega) mo_X8_thrown m_456 m_742 m_743 m_744 m_465 ⟨Nat.le_of_ble_eq_true rfl, Nat.le_of_ble_eq_true rfl⟩ rfl rfl (Nat.le_of_ble_eq_true rfl) ⟨rfl, rfl⟩ ⟨(show 200 + 8 * i + 2 ≤ 601024 by omega), (show 6000 + 64 * i + 12 ≤ 7293034 by omega)⟩ dL_law_968 (vP_in ?_)
  refine v_iload X 1 dL_law_971 rfl ?_
  refine v_ceqN X 978 (by omega) (by omega) dL_law_973 (by decide) (fun c_1 => ?_) (fun c_1 => ?_)
  · refine v_iload X 1 dL_law_978 rfl ?_
    refine v_ineN X 995 (by omega) dL_law_980 (by decide) (fun c_2 => ?_) (fun c_2 => ?_)
    · refine v_goto X 1688 dL_law_995 (by decide) ?_
      refine v_widen (z' := (200 + 8 * (i + 4), 6000 + 64 * (i + 4))) (show 200 + 8 * i + 2 ≤ 200 + 8 * (i + 4) by omega) (show 6000 + 64 * i + 12 ≤ 6000 + 64 * (i + 4) by omega) ?_
      refine v_lv [2, 3, 4, 5, 6] rfl ?_
      exact kk M2 ⟨w2, cs2, ds2, mem2, sl2, tx2, g2, hS2, hR2, F2⟩
    · refine v_aload_n X 3 dL_law_983 rfl ?_
      refine v_iconst X (v := nI 0) (by decide) dL_law_984 ?_
      refine v_lald X (j := 0) F2 (by omega) (by decide) (by decide) dL_law_985 ?_
      refine v_iload X 0 dL_law_986 rfl ?_
      refine v_i2l X (v := (bv).toInt64) rfl dL_law_988 ?_
      refine v_lcmp X dL_law_989 ?_
      refine v_if_eq X 995 dL_law_990 (by decide) (fun c_3 => ?_) (fun c_3 => ?_)
      · refine v_goto X 1688 dL_law_995 (by decide) ?_
        refine v_widen (z' := (200 + 8 * (i + 4), 6000 + 64 * (i + 4))) (show 200 + 8 * i + 2 ≤ 200 + 8 * (i + 4) by omega) (show 6000 + 64 * i + 12 ≤ 6000 + 64 * (i + 4) by omega) ?_
        refine v_lv [2, 3, 4, 5, 6] rfl ?_
        exact kk M2 ⟨w2, cs2, ds2, mem2, sl2, tx2, g2, hS2, hR2, F2⟩
      · exact absurd ((lg_cmp_eq _ _).mpr (hg2 c_2)) c_3
  · exact absurd rfl c_1
set_option maxHeartbeats 4000000 in
set_option maxRecDepth 100000 in
theorem lwc_16 {C : CT} {k : KX} {b L i : Nat} {xs : Nat → Int32} {M : Mem} (X : OKc C k cL_law RL 7 ret) (hLC : LCX C b L xs) (hN : 107 ≤ kN k) (hi : i + 3 < L) (hI : LInv k M) (kk : ∀ M', LInv k M' → V C k 7 (200 + 8 * (i + 4), 6000 + 64 * (i + 4)) M' 1688 [(4, .int (nI i)), (3, .ref (ad k 106)), (2, .ref (ad k 93)), (1, .ref (ad k 0)), (0, .ref b)] []) : V C k 7 (200 + 8 * i, 6000 + 64 * i) M 998 [(4, .int (nI i)), (3, .ref (ad k 106)), (2, .ref (ad k 93)), (1, .ref (ad k 0)), (0, .ref b)] [] := by
  obtain ⟨hCR, hst0, ht, hnc, hX, hbl, hbA, hL⟩ := hLC
  obtain ⟨w, cs, ds, mem, sl, tx, g, hSol, hRef, F106⟩ := hI
  have hCl : C_l C = C_l C := rfl
  refine v_aload_n X 3 dL_law_998 rfl ?_
  refine v_aload_n X 1 dL_law_999 rfl ?_
  refine v_callL X ht hnc hCl hCR (c_L_undo (C_l C) hst0 M g k cs ds mem sl tx  hN hSol F106) mo_L_undo m_690 m_823 m_824 m_738 ⟨Nat.le_of_ble_eq_true rfl, Nat.le_of_ble_eq_true rfl⟩ rfl rfl (Nat.le_of_ble_eq_true rfl) ⟨(show 200 + 8 * i + 1 ≤ 601024 by omega), (show 6000 + 64 * i + 6 ≤ 7293034 by omega)⟩ dL_law_1000 (vI_in (fun kv M1 h1 => ?_))
  have hf1 := wf_undo h1
  have hRef1 := hRef.fr hf1
  refine v_istore X [(5, .int kv), (4, .int (nI i)), (3, .ref (ad k 106)), (2, .ref (ad k 93)), (1, .ref (ad k 0)), (0, .ref b)] dL_law_1003 (by decide) rfl ?_
  refine v_aload_n X 3 dL_law_1005 rfl ?_
  refine v_callV X hCl hCR (c_X8_undo (C_l C) k M1 w cs ds mem sl tx  hRef1) cls8 hRef1.obj (by omega) mo_X8_undo m_586 m_825 m_826 m_827 m_465 ⟨Nat.le_of_ble_eq_true rfl, Nat.le_of_ble_eq_true rfl⟩ rfl rfl (Nat.le_of_ble_eq_true rfl) ⟨rfl, rfl⟩ ⟨(show 200 + 8 * i + 1 ≤ 601024 by omega), (show 6000 + 64 * i + 6 ≤ 7293034 by omega)⟩ dL_law_1006 (vI_in (fun bv M2 h2 => ?_))
  obtain ⟨w2, cs2, ds2, mem2, sl2, tx2, g2, hkk, hw3, hS2, hR2, F2, hg2⟩ := mt_undo F106 hRef h1 h2
  subst hkk
  refine v_istore X [(6, .int bv), (5, .int (nI w2)), (4, .int (nI i)), (3, .ref (ad k 106)), (2, .ref (ad k 93)), (1, .ref (ad k 0)), (0, .ref b)] dL_law_1009 (by decide) rfl ?_
  refine v_aload_n X 4 dL_law_1011 rfl ?_
  refine v_callV X hCl hCR (c_X8_thrown (C_l C) k M2 w2 cs2 ds2 mem2 sl2 tx2 hR2) cls8 hR2.obj (by omega) mo_X8_thrown m_456 m_742 m_743 m_744 m_465 ⟨Nat.le_of_ble_eq_true rfl, Nat.le_of_ble_eq_true rfl⟩ rfl rfl (Nat.le_of_ble_eq_true rfl) ⟨rfl, rfl⟩ ⟨(show 200 + 8 * i + 1 ≤ 601024 by omega), (show 6000 + 64 * i + 6 ≤ 7293034 by omega)⟩ dL_law_1012 (vP_in ?_)
  refine v_iload X 1 dL_law_1015 rfl ?_
  refine v_ceqN X 1022 (by omega) (by omega) dL_law_1017 (by decide) (fun c_1 => ?_) (fun c_1 => ?_)
  · refine v_iload X 1 dL_law_1022 rfl ?_
    refine v_ineN X 1039 (by omega) dL_law_1024 (by decide) (fun c_2 => ?_) (fun c_2 => ?_)
    · refine v_goto X 1688 dL_law_1039 (by decide) ?_
      refine v_widen (z' := (200 + 8 * (i + 4), 6000 + 64 * (i + 4))) (show 200 + 8 * i + 1 ≤ 200 + 8 * (i + 4) by omega) (show 6000 + 64 * i + 6 ≤ 6000 + 64 * (i + 4) by omega) ?_
      refine v_lv [2, 3, 4, 5, 6] rfl ?_
      exact kk M2 ⟨w2, cs2, ds2, mem2, sl2, tx2, g2, hS2, hR2, F2⟩
    · refine v_aload_n X 3 dL_law_1027 rfl ?_
      refine v_iconst X (v := nI 0) (by decide) dL_law_1028 ?_
      refine v_lald X (j := 0) F2 (by omega) (by decide) (by decide) dL_law_1029 ?_
      refine v_iload X 0 dL_law_1030 rfl ?_
      refine v_i2l X (v := (bv).toInt64) rfl dL_law_1032 ?_
      refine v_lcmp X dL_law_1033 ?_
      refine v_if_eq X 1039 dL_law_1034 (by decide) (fun c_3 => ?_) (fun c_3 => ?_)
      · refine v_goto X 1688 dL_law_1039 (by decide) ?_
        refine v_widen (z' := (200 + 8 * (i + 4), 6000 + 64 * (i + 4))) (show 200 + 8 * i + 1 ≤ 200 + 8 * (i + 4) by omega) (show 6000 + 64 * i + 6 ≤ 6000 + 64 * (i + 4) by omega) ?_
        refine v_lv [2, 3, 4, 5, 6] rfl ?_
        exact kk M2 ⟨w2, cs2, ds2, mem2, sl2, tx2, g2, hS2, hR2, F2⟩
      · exact absurd ((lg_cmp_eq _ _).mpr (hg2 c_2)) c_3
  · exact absurd rfl c_1
set_option maxHeartbeats 4000000 in
set_option maxRecDepth 100000 in
theorem lwc_17 {C : CT} {k : KX} {b L i : Nat} {xs : Nat → Int32} {M : Mem} (X : OKc C k cL_law RL 7 ret) (hLC : LCX C b L xs) (hN : 107 ≤ kN k) (hi : i + 3 < L) (hI : LInv k M) (kk : ∀ M', LInv k M' → V C k 7 (200 + 8 * (i + 4), 6000 + 64 * (i + 4)) M' 1688 [(4, .int (nI i)), (3, .ref (ad k 106)), (2, .ref (ad k 93)), (1, .ref (ad k 0)), (0, .ref b)] []) : V C k 7 (200 + 8 * i, 6000 + 64 * i) M 1042 [(4, .int (nI i)), (3, .ref (ad k 106)), (2, .ref (ad k 93)), (1, .ref (ad k 0)), (0, .ref b)] [] := by
  obtain ⟨hCR, hst0, ht, hnc, hX, hbl, hbA, hL⟩ := hLC
  obtain ⟨w, cs, ds, mem, sl, tx, g, hSol, hRef, F106⟩ := hI
  have hCl : C_l C = C_l C := rfl
  refine v_aload_n X 3 dL_law_1042 rfl ?_
  refine v_callV X hCl hCR (c_X7_level (C_l C) k M cs ds mem sl tx  hSol) cls7 hSol.obj (by omega) mo_X7_level m_383 m_828 m_829 m_830 m_21 ⟨Nat.le_of_ble_eq_true rfl, Nat.le_of_ble_eq_true rfl⟩ rfl rfl (Nat.le_of_ble_eq_true rfl) ⟨rfl, rfl⟩ ⟨(show 200 + 8 * i ≤ 601024 by omega), (show 6000 + 64 * i ≤ 7293034 by omega)⟩ dL_law_1043 (vI_in (fun r1 M1 h1 => ?_))
  have hRef1 : RefAt k M1 w cs ds mem sl tx := hRef.fr (fun i h _ => h1.2.2 i (Or.inr (by omega)))
  have F1 : M1 106 = .inl (kJ k, 1, .inr (.inl g)) := by rw [h1.2.2 106 (Or.inr (by omega))]; exact F106
  refine v_aload_n X 2 dL_law_1046 rfl ?_
  refine v_callV X hCl hCR (c_X8_level (C_l C) k M1 w cs ds mem sl tx  hRef1) cls8 hRef1.obj (by omega) mo_X8_level m_587 m_831 m_832 m_833 m_465 ⟨Nat.le_of_ble_eq_true rfl, Nat.le_of_ble_eq_true rfl⟩ rfl rfl (Nat.le_of_ble_eq_true rfl) ⟨rfl, rfl⟩ ⟨(show 200 + 8 * i ≤ 601024 by omega), (show 6000 + 64 * i ≤ 7293034 by omega)⟩ dL_law_1047 (vI_in (fun r2 M2 h2 => ?_))
  refine v_icmp_eq X 1688 dL_law_1050 (by decide) (fun c_1 => ?_) (fun c_1 => ?_)
  · refine v_widen (z' := (200 + 8 * (i + 4), 6000 + 64 * (i + 4))) (show 200 + 8 * i ≤ 200 + 8 * (i + 4) by omega) (show 6000 + 64 * i ≤ 6000 + 64 * (i + 4) by omega) ?_
    exact kk M2 ⟨0, _, _, _, _, _, g, h1.2.1.fr (fun i hi => h2.2 i (Or.inl hi)), h2.1.2, by rw [h2.2 106 (Or.inr (by omega))]; exact F1⟩
  · exact absurd (h1.1.trans h2.1.1.symm) c_1
set_option maxHeartbeats 4000000 in
set_option maxRecDepth 100000 in
theorem lwc_18 {C : CT} {k : KX} {b L i : Nat} {xs : Nat → Int32} {M : Mem} (X : OKc C k cL_law RL 7 ret) (hLC : LCX C b L xs) (hN : 107 ≤ kN k) (hi : i + 3 < L) (hI : LInv k M) (kk : ∀ M', LInv k M' → V C k 7 (200 + 8 * (i + 4), 6000 + 64 * (i + 4)) M' 1688 [(4, .int (nI i)), (3, .ref (ad k 106)), (2, .ref (ad k 93)), (1, .ref (ad k 0)), (0, .ref b)] []) : V C k 7 (200 + 8 * i, 6000 + 64 * i) M 1055 [(4, .int (nI i)), (3, .ref (ad k 106)), (2, .ref (ad k 93)), (1, .ref (ad k 0)), (0, .ref b)] [] := by
  obtain ⟨hCR, hst0, ht, hnc, hX, hbl, hbA, hL⟩ := hLC
  obtain ⟨w, cs, ds, mem, sl, tx, g, hSol, hRef, F106⟩ := hI
  have hCl : C_l C = C_l C := rfl
  refine v_aload_n X 3 dL_law_1055 rfl ?_
  refine v_aload_n X 4 dL_law_1056 rfl ?_
  refine v_iload X 0 dL_law_1057 rfl ?_
  refine v_iconst X (v := nI 1) (by decide) dL_law_1059 ?_
  refine v_addN X dL_law_1060 ?_
  refine v_sld X hX hbl hbA (by omega) (by omega) dL_law_1061 ?_
  refine v_aload_n X 1 dL_law_1062 rfl ?_
  refine v_callL X ht hnc hCl hCR (c_L_value (C_l C) hst0 M g k cs ds mem sl tx (xs (i + 1)) hN hSol F106) mo_L_value m_694 m_834 m_835 m_738 ⟨Nat.le_of_ble_eq_true rfl, Nat.le_of_ble_eq_true rfl⟩ rfl rfl (Nat.le_of_ble_eq_true rfl) ⟨(show 200 + 8 * i + 1 ≤ 601024 by omega), (show 6000 + 64 * i + 6 ≤ 7293034 by omega)⟩ dL_law_1063 (vI_in (fun kv M1 h1 => ?_))
  have hf1 := wf_value h1
  have hRef1 := hRef.fr hf1
  refine v_istore X [(5, .int kv), (4, .int (nI i)), (3, .ref (ad k 106)), (2, .ref (ad k 93)), (1, .ref (ad k 0)), (0, .ref b)] dL_law_1066 (by decide) rfl ?_
  refine v_aload_n X 3 dL_law_1068 rfl ?_
  refine v_aload_n X 5 dL_law_1069 rfl ?_
  refine v_iload X 1 dL_law_1070 rfl ?_
  refine v_iconst X (v := nI 1) (by decide) dL_law_1072 ?_
  refine v_addN X dL_law_1073 ?_
  refine v_sld X hX hbl hbA (by omega) (by omega) dL_law_1074 ?_
  refine v_callV X hCl hCR (c_X8_value (C_l C) k M1 w cs ds mem sl tx (xs (i + 1)) hRef1) cls8 hRef1.obj (by omega) mo_X8_value m_588 m_836 m_837 m_838 m_465 ⟨Nat.le_of_ble_eq_true rfl, Nat.le_of_ble_eq_true rfl⟩ rfl rfl (Nat.le_of_ble_eq_true rfl) ⟨rfl, rfl⟩ ⟨(show 200 + 8 * i + 1 ≤ 601024 by omega), (show 6000 + 64 * i + 6 ≤ 7293034 by omega)⟩ dL_law_1075 (vI_in (fun bv M2 h2 => ?_))
  obtain ⟨w2, cs2, ds2, mem2, sl2, tx2, g2, hkk, hw3, hS2, hR2, F2, hg2⟩ := mt_value F106 hRef h1 h2
  subst hkk
  refine v_istore X [(6, .int bv), (5, .int (nI w2)), (4, .int (nI i)), (3, .ref (ad k 106)), (2, .ref (ad k 93)), (1, .ref (ad k 0)), (0, .ref b)] dL_law_1078 (by decide) rfl ?_
  refine v_aload_n X 4 dL_law_1080 rfl ?_
  refine v_callV X hCl hCR (c_X8_thrown (C_l C) k M2 w2 cs2 ds2 mem2 sl2 tx2 hR2) cls8 hR2.obj (by omega) mo_X8_thrown m_456 m_742 m_743 m_744 m_465 ⟨Nat.le_of_ble_eq_true rfl, Nat.le_of_ble_eq_true rfl⟩ rfl rfl (Nat.le_of_ble_eq_true rfl) ⟨rfl, rfl⟩ ⟨(show 200 + 8 * i + 1 ≤ 601024 by omega), (show 6000 + 64 * i + 6 ≤ 7293034 by omega)⟩ dL_law_1081 (vP_in ?_)
  refine v_iload X 1 dL_law_1084 rfl ?_
  refine v_ceqN X 1091 (by omega) (by omega) dL_law_1086 (by decide) (fun c_1 => ?_) (fun c_1 => ?_)
  · refine v_iload X 1 dL_law_1091 rfl ?_
    refine v_ineN X 1108 (by omega) dL_law_1093 (by decide) (fun c_2 => ?_) (fun c_2 => ?_)
    · refine v_goto X 1688 dL_law_1108 (by decide) ?_
      refine v_widen (z' := (200 + 8 * (i + 4), 6000 + 64 * (i + 4))) (show 200 + 8 * i + 1 ≤ 200 + 8 * (i + 4) by omega) (show 6000 + 64 * i + 6 ≤ 6000 + 64 * (i + 4) by omega) ?_
      refine v_lv [2, 3, 4, 5, 6] rfl ?_
      exact kk M2 ⟨w2, cs2, ds2, mem2, sl2, tx2, g2, hS2, hR2, F2⟩
    · refine v_aload_n X 3 dL_law_1096 rfl ?_
      refine v_iconst X (v := nI 0) (by decide) dL_law_1097 ?_
      refine v_lald X (j := 0) F2 (by omega) (by decide) (by decide) dL_law_1098 ?_
      refine v_iload X 0 dL_law_1099 rfl ?_
      refine v_i2l X (v := (bv).toInt64) rfl dL_law_1101 ?_
      refine v_lcmp X dL_law_1102 ?_
      refine v_if_eq X 1108 dL_law_1103 (by decide) (fun c_3 => ?_) (fun c_3 => ?_)
      · refine v_goto X 1688 dL_law_1108 (by decide) ?_
        refine v_widen (z' := (200 + 8 * (i + 4), 6000 + 64 * (i + 4))) (show 200 + 8 * i + 1 ≤ 200 + 8 * (i + 4) by omega) (show 6000 + 64 * i + 6 ≤ 6000 + 64 * (i + 4) by omega) ?_
        refine v_lv [2, 3, 4, 5, 6] rfl ?_
        exact kk M2 ⟨w2, cs2, ds2, mem2, sl2, tx2, g2, hS2, hR2, F2⟩
      · exact absurd ((lg_cmp_eq _ _).mpr (hg2 c_2)) c_3
  · exact absurd rfl c_1
set_option maxHeartbeats 4000000 in
set_option maxRecDepth 100000 in
theorem lwc_19 {C : CT} {k : KX} {b L i : Nat} {xs : Nat → Int32} {M : Mem} (X : OKc C k cL_law RL 7 ret) (hLC : LCX C b L xs) (hN : 107 ≤ kN k) (hi : i + 3 < L) (hI : LInv k M) (kk : ∀ M', LInv k M' → V C k 7 (200 + 8 * (i + 4), 6000 + 64 * (i + 4)) M' 1688 [(4, .int (nI i)), (3, .ref (ad k 106)), (2, .ref (ad k 93)), (1, .ref (ad k 0)), (0, .ref b)] []) : V C k 7 (200 + 8 * i, 6000 + 64 * i) M 1111 [(4, .int (nI i)), (3, .ref (ad k 106)), (2, .ref (ad k 93)), (1, .ref (ad k 0)), (0, .ref b)] [] := by
  obtain ⟨hCR, hst0, ht, hnc, hX, hbl, hbA, hL⟩ := hLC
  obtain ⟨w, cs, ds, mem, sl, tx, g, hSol, hRef, F106⟩ := hI
  have hCl : C_l C = C_l C := rfl
  refine v_aload_n X 3 dL_law_1111 rfl ?_
  refine v_aload_n X 4 dL_law_1112 rfl ?_
  refine v_iload X 0 dL_law_1113 rfl ?_
  refine v_iconst X (v := nI 1) (by decide) dL_law_1115 ?_
  refine v_addN X dL_law_1116 ?_
  refine v_sld X hX hbl hbA (by omega) (by omega) dL_law_1117 ?_
  refine v_aload_n X 1 dL_law_1118 rfl ?_
  refine v_callL X ht hnc hCl hCR (c_L_trailLiteral (C_l C) hst0 M g k cs ds mem sl tx (xs (i + 1)) hN hSol F106) mo_L_trailLiteral m_698 m_839 m_840 m_738 ⟨Nat.le_of_ble_eq_true rfl, Nat.le_of_ble_eq_true rfl⟩ rfl rfl (Nat.le_of_ble_eq_true rfl) ⟨(show 200 + 8 * i + 1 ≤ 601024 by omega), (show 6000 + 64 * i + 6 ≤ 7293034 by omega)⟩ dL_law_1119 (vI_in (fun kv M1 h1 => ?_))
  have hf1 := wf_trailLiteral h1
  have hRef1 := hRef.fr hf1
  refine v_istore X [(5, .int kv), (4, .int (nI i)), (3, .ref (ad k 106)), (2, .ref (ad k 93)), (1, .ref (ad k 0)), (0, .ref b)] dL_law_1122 (by decide) rfl ?_
  refine v_aload_n X 3 dL_law_1124 rfl ?_
  refine v_aload_n X 5 dL_law_1125 rfl ?_
  refine v_iload X 1 dL_law_1126 rfl ?_
  refine v_iconst X (v := nI 1) (by decide) dL_law_1128 ?_
  refine v_addN X dL_law_1129 ?_
  refine v_sld X hX hbl hbA (by omega) (by omega) dL_law_1130 ?_
  refine v_callV X hCl hCR (c_X8_trailLiteral (C_l C) k M1 w cs ds mem sl tx (xs (i + 1)) hRef1) cls8 hRef1.obj (by omega) mo_X8_trailLiteral m_589 m_841 m_842 m_843 m_465 ⟨Nat.le_of_ble_eq_true rfl, Nat.le_of_ble_eq_true rfl⟩ rfl rfl (Nat.le_of_ble_eq_true rfl) ⟨rfl, rfl⟩ ⟨(show 200 + 8 * i + 1 ≤ 601024 by omega), (show 6000 + 64 * i + 6 ≤ 7293034 by omega)⟩ dL_law_1131 (vI_in (fun bv M2 h2 => ?_))
  obtain ⟨w2, cs2, ds2, mem2, sl2, tx2, g2, hkk, hw3, hS2, hR2, F2, hg2⟩ := mt_trailLiteral F106 hRef h1 h2
  subst hkk
  refine v_istore X [(6, .int bv), (5, .int (nI w2)), (4, .int (nI i)), (3, .ref (ad k 106)), (2, .ref (ad k 93)), (1, .ref (ad k 0)), (0, .ref b)] dL_law_1134 (by decide) rfl ?_
  refine v_aload_n X 4 dL_law_1136 rfl ?_
  refine v_callV X hCl hCR (c_X8_thrown (C_l C) k M2 w2 cs2 ds2 mem2 sl2 tx2 hR2) cls8 hR2.obj (by omega) mo_X8_thrown m_456 m_742 m_743 m_744 m_465 ⟨Nat.le_of_ble_eq_true rfl, Nat.le_of_ble_eq_true rfl⟩ rfl rfl (Nat.le_of_ble_eq_true rfl) ⟨rfl, rfl⟩ ⟨(show 200 + 8 * i + 1 ≤ 601024 by omega), (show 6000 + 64 * i + 6 ≤ 7293034 by omega)⟩ dL_law_1137 (vP_in ?_)
  refine v_iload X 1 dL_law_1140 rfl ?_
  refine v_ceqN X 1147 (by omega) (by omega) dL_law_1142 (by decide) (fun c_1 => ?_) (fun c_1 => ?_)
  · refine v_iload X 1 dL_law_1147 rfl ?_
    refine v_ineN X 1164 (by omega) dL_law_1149 (by decide) (fun c_2 => ?_) (fun c_2 => ?_)
    · refine v_goto X 1688 dL_law_1164 (by decide) ?_
      refine v_widen (z' := (200 + 8 * (i + 4), 6000 + 64 * (i + 4))) (show 200 + 8 * i + 1 ≤ 200 + 8 * (i + 4) by omega) (show 6000 + 64 * i + 6 ≤ 6000 + 64 * (i + 4) by omega) ?_
      refine v_lv [2, 3, 4, 5, 6] rfl ?_
      exact kk M2 ⟨w2, cs2, ds2, mem2, sl2, tx2, g2, hS2, hR2, F2⟩
    · refine v_aload_n X 3 dL_law_1152 rfl ?_
      refine v_iconst X (v := nI 0) (by decide) dL_law_1153 ?_
      refine v_lald X (j := 0) F2 (by omega) (by decide) (by decide) dL_law_1154 ?_
      refine v_iload X 0 dL_law_1155 rfl ?_
      refine v_i2l X (v := (bv).toInt64) rfl dL_law_1157 ?_
      refine v_lcmp X dL_law_1158 ?_
      refine v_if_eq X 1164 dL_law_1159 (by decide) (fun c_3 => ?_) (fun c_3 => ?_)
      · refine v_goto X 1688 dL_law_1164 (by decide) ?_
        refine v_widen (z' := (200 + 8 * (i + 4), 6000 + 64 * (i + 4))) (show 200 + 8 * i + 1 ≤ 200 + 8 * (i + 4) by omega) (show 6000 + 64 * i + 6 ≤ 6000 + 64 * (i + 4) by omega) ?_
        refine v_lv [2, 3, 4, 5, 6] rfl ?_
        exact kk M2 ⟨w2, cs2, ds2, mem2, sl2, tx2, g2, hS2, hR2, F2⟩
      · exact absurd ((lg_cmp_eq _ _).mpr (hg2 c_2)) c_3
  · exact absurd rfl c_1
set_option maxHeartbeats 4000000 in
set_option maxRecDepth 100000 in
theorem lwc_20 {C : CT} {k : KX} {b L i : Nat} {xs : Nat → Int32} {M : Mem} (X : OKc C k cL_law RL 7 ret) (hLC : LCX C b L xs) (hN : 107 ≤ kN k) (hi : i + 3 < L) (hI : LInv k M) (kk : ∀ M', LInv k M' → V C k 7 (200 + 8 * (i + 4), 6000 + 64 * (i + 4)) M' 1688 [(4, .int (nI i)), (3, .ref (ad k 106)), (2, .ref (ad k 93)), (1, .ref (ad k 0)), (0, .ref b)] []) : V C k 7 (200 + 8 * i, 6000 + 64 * i) M 1167 [(4, .int (nI i)), (3, .ref (ad k 106)), (2, .ref (ad k 93)), (1, .ref (ad k 0)), (0, .ref b)] [] := by
  obtain ⟨hCR, hst0, ht, hnc, hX, hbl, hbA, hL⟩ := hLC
  obtain ⟨w, cs, ds, mem, sl, tx, g, hSol, hRef, F106⟩ := hI
  have hCl : C_l C = C_l C := rfl
  refine v_aload_n X 3 dL_law_1167 rfl ?_
  refine v_aload_n X 4 dL_law_1168 rfl ?_
  refine v_iload X 0 dL_law_1169 rfl ?_
  refine v_iconst X (v := nI 1) (by decide) dL_law_1171 ?_
  refine v_addN X dL_law_1172 ?_
  refine v_sld X hX hbl hbA (by omega) (by omega) dL_law_1173 ?_
  refine v_aload_n X 1 dL_law_1174 rfl ?_
  refine v_callL X ht hnc hCl hCR (c_L_reason (C_l C) hst0 M g k cs ds mem sl tx (xs (i + 1)) hN hSol F106) mo_L_reason m_702 m_844 m_845 m_738 ⟨Nat.le_of_ble_eq_true rfl, Nat.le_of_ble_eq_true rfl⟩ rfl rfl (Nat.le_of_ble_eq_true rfl) ⟨(show 200 + 8 * i + 1 ≤ 601024 by omega), (show 6000 + 64 * i + 6 ≤ 7293034 by omega)⟩ dL_law_1175 (vI_in (fun kv M1 h1 => ?_))
  have hf1 := wf_reason h1
  have hRef1 := hRef.fr hf1
  refine v_istore X [(5, .int kv), (4, .int (nI i)), (3, .ref (ad k 106)), (2, .ref (ad k 93)), (1, .ref (ad k 0)), (0, .ref b)] dL_law_1178 (by decide) rfl ?_
  refine v_aload_n X 3 dL_law_1180 rfl ?_
  refine v_aload_n X 5 dL_law_1181 rfl ?_
  refine v_iload X 1 dL_law_1182 rfl ?_
  refine v_iconst X (v := nI 1) (by decide) dL_law_1184 ?_
  refine v_addN X dL_law_1185 ?_
  refine v_sld X hX hbl hbA (by omega) (by omega) dL_law_1186 ?_
  refine v_callV X hCl hCR (c_X8_reason (C_l C) k M1 w cs ds mem sl tx (xs (i + 1)) hRef1) cls8 hRef1.obj (by omega) mo_X8_reason m_590 m_846 m_847 m_848 m_465 ⟨Nat.le_of_ble_eq_true rfl, Nat.le_of_ble_eq_true rfl⟩ rfl rfl (Nat.le_of_ble_eq_true rfl) ⟨rfl, rfl⟩ ⟨(show 200 + 8 * i + 1 ≤ 601024 by omega), (show 6000 + 64 * i + 6 ≤ 7293034 by omega)⟩ dL_law_1187 (vI_in (fun bv M2 h2 => ?_))
  obtain ⟨w2, cs2, ds2, mem2, sl2, tx2, g2, hkk, hw3, hS2, hR2, F2, hg2⟩ := mt_reason F106 hRef h1 h2
  subst hkk
  refine v_istore X [(6, .int bv), (5, .int (nI w2)), (4, .int (nI i)), (3, .ref (ad k 106)), (2, .ref (ad k 93)), (1, .ref (ad k 0)), (0, .ref b)] dL_law_1190 (by decide) rfl ?_
  refine v_aload_n X 4 dL_law_1192 rfl ?_
  refine v_callV X hCl hCR (c_X8_thrown (C_l C) k M2 w2 cs2 ds2 mem2 sl2 tx2 hR2) cls8 hR2.obj (by omega) mo_X8_thrown m_456 m_742 m_743 m_744 m_465 ⟨Nat.le_of_ble_eq_true rfl, Nat.le_of_ble_eq_true rfl⟩ rfl rfl (Nat.le_of_ble_eq_true rfl) ⟨rfl, rfl⟩ ⟨(show 200 + 8 * i + 1 ≤ 601024 by omega), (show 6000 + 64 * i + 6 ≤ 7293034 by omega)⟩ dL_law_1193 (vP_in ?_)
  refine v_iload X 1 dL_law_1196 rfl ?_
  refine v_ceqN X 1203 (by omega) (by omega) dL_law_1198 (by decide) (fun c_1 => ?_) (fun c_1 => ?_)
  · refine v_iload X 1 dL_law_1203 rfl ?_
    refine v_ineN X 1220 (by omega) dL_law_1205 (by decide) (fun c_2 => ?_) (fun c_2 => ?_)
    · refine v_goto X 1688 dL_law_1220 (by decide) ?_
      refine v_widen (z' := (200 + 8 * (i + 4), 6000 + 64 * (i + 4))) (show 200 + 8 * i + 1 ≤ 200 + 8 * (i + 4) by omega) (show 6000 + 64 * i + 6 ≤ 6000 + 64 * (i + 4) by omega) ?_
      refine v_lv [2, 3, 4, 5, 6] rfl ?_
      exact kk M2 ⟨w2, cs2, ds2, mem2, sl2, tx2, g2, hS2, hR2, F2⟩
    · refine v_aload_n X 3 dL_law_1208 rfl ?_
      refine v_iconst X (v := nI 0) (by decide) dL_law_1209 ?_
      refine v_lald X (j := 0) F2 (by omega) (by decide) (by decide) dL_law_1210 ?_
      refine v_iload X 0 dL_law_1211 rfl ?_
      refine v_i2l X (v := (bv).toInt64) rfl dL_law_1213 ?_
      refine v_lcmp X dL_law_1214 ?_
      refine v_if_eq X 1220 dL_law_1215 (by decide) (fun c_3 => ?_) (fun c_3 => ?_)
      · refine v_goto X 1688 dL_law_1220 (by decide) ?_
        refine v_widen (z' := (200 + 8 * (i + 4), 6000 + 64 * (i + 4))) (show 200 + 8 * i + 1 ≤ 200 + 8 * (i + 4) by omega) (show 6000 + 64 * i + 6 ≤ 6000 + 64 * (i + 4) by omega) ?_
        refine v_lv [2, 3, 4, 5, 6] rfl ?_
        exact kk M2 ⟨w2, cs2, ds2, mem2, sl2, tx2, g2, hS2, hR2, F2⟩
      · exact absurd ((lg_cmp_eq _ _).mpr (hg2 c_2)) c_3
  · exact absurd rfl c_1
set_option maxHeartbeats 4000000 in
set_option maxRecDepth 100000 in
theorem lwc_21 {C : CT} {k : KX} {b L i : Nat} {xs : Nat → Int32} {M : Mem} (X : OKc C k cL_law RL 7 ret) (hLC : LCX C b L xs) (hN : 107 ≤ kN k) (hi : i + 3 < L) (hI : LInv k M) (kk : ∀ M', LInv k M' → V C k 7 (200 + 8 * (i + 4), 6000 + 64 * (i + 4)) M' 1688 [(4, .int (nI i)), (3, .ref (ad k 106)), (2, .ref (ad k 93)), (1, .ref (ad k 0)), (0, .ref b)] []) : V C k 7 (200 + 8 * i, 6000 + 64 * i) M 1223 [(4, .int (nI i)), (3, .ref (ad k 106)), (2, .ref (ad k 93)), (1, .ref (ad k 0)), (0, .ref b)] [] := by
  obtain ⟨hCR, hst0, ht, hnc, hX, hbl, hbA, hL⟩ := hLC
  obtain ⟨w, cs, ds, mem, sl, tx, g, hSol, hRef, F106⟩ := hI
  have hCl : C_l C = C_l C := rfl
  refine v_aload_n X 3 dL_law_1223 rfl ?_
  refine v_callV X hCl hCR (c_X7_conflict (C_l C) k M cs ds mem sl tx  hSol) cls7 hSol.obj (by omega) mo_X7_conflict m_392 m_849 m_850 m_851 m_21 ⟨Nat.le_of_ble_eq_true rfl, Nat.le_of_ble_eq_true rfl⟩ rfl rfl (Nat.le_of_ble_eq_true rfl) ⟨rfl, rfl⟩ ⟨(show 200 + 8 * i ≤ 601024 by omega), (show 6000 + 64 * i ≤ 7293034 by omega)⟩ dL_law_1224 (vI_in (fun r1 M1 h1 => ?_))
  have hRef1 : RefAt k M1 w cs ds mem sl tx := hRef.fr (fun i h _ => h1.2.2 i (Or.inr (by omega)))
  have F1 : M1 106 = .inl (kJ k, 1, .inr (.inl g)) := by rw [h1.2.2 106 (Or.inr (by omega))]; exact F106
  refine v_aload_n X 2 dL_law_1227 rfl ?_
  refine v_callV X hCl hCR (c_X8_conflict (C_l C) k M1 w cs ds mem sl tx  hRef1) cls8 hRef1.obj (by omega) mo_X8_conflict m_591 m_852 m_853 m_854 m_465 ⟨Nat.le_of_ble_eq_true rfl, Nat.le_of_ble_eq_true rfl⟩ rfl rfl (Nat.le_of_ble_eq_true rfl) ⟨rfl, rfl⟩ ⟨(show 200 + 8 * i ≤ 601024 by omega), (show 6000 + 64 * i ≤ 7293034 by omega)⟩ dL_law_1228 (vI_in (fun r2 M2 h2 => ?_))
  refine v_icmp_eq X 1688 dL_law_1231 (by decide) (fun c_1 => ?_) (fun c_1 => ?_)
  · refine v_widen (z' := (200 + 8 * (i + 4), 6000 + 64 * (i + 4))) (show 200 + 8 * i ≤ 200 + 8 * (i + 4) by omega) (show 6000 + 64 * i ≤ 6000 + 64 * (i + 4) by omega) ?_
    exact kk M2 ⟨0, _, _, _, _, _, g, h1.2.1.fr (fun i hi => h2.2 i (Or.inl hi)), h2.1.2, by rw [h2.2 106 (Or.inr (by omega))]; exact F1⟩
  · exact absurd (h1.1.trans h2.1.1.symm) c_1
set_option maxHeartbeats 4000000 in
set_option maxRecDepth 100000 in
theorem lwc_22 {C : CT} {k : KX} {b L i : Nat} {xs : Nat → Int32} {M : Mem} (X : OKc C k cL_law RL 7 ret) (hLC : LCX C b L xs) (hN : 107 ≤ kN k) (hi : i + 3 < L) (hI : LInv k M) (kk : ∀ M', LInv k M' → V C k 7 (200 + 8 * (i + 4), 6000 + 64 * (i + 4)) M' 1688 [(4, .int (nI i)), (3, .ref (ad k 106)), (2, .ref (ad k 93)), (1, .ref (ad k 0)), (0, .ref b)] []) : V C k 7 (200 + 8 * i, 6000 + 64 * i) M 1236 [(4, .int (nI i)), (3, .ref (ad k 106)), (2, .ref (ad k 93)), (1, .ref (ad k 0)), (0, .ref b)] [] := by
  obtain ⟨hCR, hst0, ht, hnc, hX, hbl, hbA, hL⟩ := hLC
  obtain ⟨w, cs, ds, mem, sl, tx, g, hSol, hRef, F106⟩ := hI
  have hCl : C_l C = C_l C := rfl
  refine v_aload_n X 3 dL_law_1236 rfl ?_
  refine v_aload_n X 1 dL_law_1237 rfl ?_
  refine v_callL X ht hnc hCl hCR (c_L_learnedClause (C_l C) hst0 M g k cs ds mem sl tx  hN hSol F106) mo_L_learnedClause m_706 m_855 m_856 m_738 ⟨Nat.le_of_ble_eq_true rfl, Nat.le_of_ble_eq_true rfl⟩ rfl rfl (Nat.le_of_ble_eq_true rfl) ⟨(show 200 + 8 * i + 1 ≤ 601024 by omega), (show 6000 + 64 * i + 6 ≤ 7293034 by omega)⟩ dL_law_1238 (vI_in (fun kv M1 h1 => ?_))
  have hf1 := wf_learnedClause h1
  have hRef1 := hRef.fr hf1
  refine v_istore X [(5, .int kv), (4, .int (nI i)), (3, .ref (ad k 106)), (2, .ref (ad k 93)), (1, .ref (ad k 0)), (0, .ref b)] dL_law_1241 (by decide) rfl ?_
  refine v_aload_n X 3 dL_law_1243 rfl ?_
  refine v_callV X hCl hCR (c_X8_learnedClause (C_l C) k M1 w cs ds mem sl tx  hRef1) cls8 hRef1.obj (by omega) mo_X8_learnedClause m_592 m_857 m_858 m_859 m_465 ⟨Nat.le_of_ble_eq_true rfl, Nat.le_of_ble_eq_true rfl⟩ rfl rfl (Nat.le_of_ble_eq_true rfl) ⟨rfl, rfl⟩ ⟨(show 200 + 8 * i + 1 ≤ 601024 by omega), (show 6000 + 64 * i + 6 ≤ 7293034 by omega)⟩ dL_law_1244 (vI_in (fun bv M2 h2 => ?_))
  obtain ⟨w2, cs2, ds2, mem2, sl2, tx2, g2, hkk, hw3, hS2, hR2, F2, hg2⟩ := mt_learnedClause F106 hRef h1 h2
  subst hkk
  refine v_istore X [(6, .int bv), (5, .int (nI w2)), (4, .int (nI i)), (3, .ref (ad k 106)), (2, .ref (ad k 93)), (1, .ref (ad k 0)), (0, .ref b)] dL_law_1247 (by decide) rfl ?_
  refine v_aload_n X 4 dL_law_1249 rfl ?_
  refine v_callV X hCl hCR (c_X8_thrown (C_l C) k M2 w2 cs2 ds2 mem2 sl2 tx2 hR2) cls8 hR2.obj (by omega) mo_X8_thrown m_456 m_742 m_743 m_744 m_465 ⟨Nat.le_of_ble_eq_true rfl, Nat.le_of_ble_eq_true rfl⟩ rfl rfl (Nat.le_of_ble_eq_true rfl) ⟨rfl, rfl⟩ ⟨(show 200 + 8 * i + 1 ≤ 601024 by omega), (show 6000 + 64 * i + 6 ≤ 7293034 by omega)⟩ dL_law_1250 (vP_in ?_)
  refine v_iload X 1 dL_law_1253 rfl ?_
  refine v_ceqN X 1260 (by omega) (by omega) dL_law_1255 (by decide) (fun c_1 => ?_) (fun c_1 => ?_)
  · refine v_iload X 1 dL_law_1260 rfl ?_
    refine v_ineN X 1277 (by omega) dL_law_1262 (by decide) (fun c_2 => ?_) (fun c_2 => ?_)
    · refine v_goto X 1688 dL_law_1277 (by decide) ?_
      refine v_widen (z' := (200 + 8 * (i + 4), 6000 + 64 * (i + 4))) (show 200 + 8 * i + 1 ≤ 200 + 8 * (i + 4) by omega) (show 6000 + 64 * i + 6 ≤ 6000 + 64 * (i + 4) by omega) ?_
      refine v_lv [2, 3, 4, 5, 6] rfl ?_
      exact kk M2 ⟨w2, cs2, ds2, mem2, sl2, tx2, g2, hS2, hR2, F2⟩
    · refine v_aload_n X 3 dL_law_1265 rfl ?_
      refine v_iconst X (v := nI 0) (by decide) dL_law_1266 ?_
      refine v_lald X (j := 0) F2 (by omega) (by decide) (by decide) dL_law_1267 ?_
      refine v_iload X 0 dL_law_1268 rfl ?_
      refine v_i2l X (v := (bv).toInt64) rfl dL_law_1270 ?_
      refine v_lcmp X dL_law_1271 ?_
      refine v_if_eq X 1277 dL_law_1272 (by decide) (fun c_3 => ?_) (fun c_3 => ?_)
      · refine v_goto X 1688 dL_law_1277 (by decide) ?_
        refine v_widen (z' := (200 + 8 * (i + 4), 6000 + 64 * (i + 4))) (show 200 + 8 * i + 1 ≤ 200 + 8 * (i + 4) by omega) (show 6000 + 64 * i + 6 ≤ 6000 + 64 * (i + 4) by omega) ?_
        refine v_lv [2, 3, 4, 5, 6] rfl ?_
        exact kk M2 ⟨w2, cs2, ds2, mem2, sl2, tx2, g2, hS2, hR2, F2⟩
      · exact absurd ((lg_cmp_eq _ _).mpr (hg2 c_2)) c_3
  · exact absurd rfl c_1
set_option maxHeartbeats 4000000 in
set_option maxRecDepth 100000 in
theorem lwc_23 {C : CT} {k : KX} {b L i : Nat} {xs : Nat → Int32} {M : Mem} (X : OKc C k cL_law RL 7 ret) (hLC : LCX C b L xs) (hN : 107 ≤ kN k) (hi : i + 3 < L) (hI : LInv k M) (kk : ∀ M', LInv k M' → V C k 7 (200 + 8 * (i + 4), 6000 + 64 * (i + 4)) M' 1688 [(4, .int (nI i)), (3, .ref (ad k 106)), (2, .ref (ad k 93)), (1, .ref (ad k 0)), (0, .ref b)] []) : V C k 7 (200 + 8 * i, 6000 + 64 * i) M 1280 [(4, .int (nI i)), (3, .ref (ad k 106)), (2, .ref (ad k 93)), (1, .ref (ad k 0)), (0, .ref b)] [] := by
  obtain ⟨hCR, hst0, ht, hnc, hX, hbl, hbA, hL⟩ := hLC
  obtain ⟨w, cs, ds, mem, sl, tx, g, hSol, hRef, F106⟩ := hI
  have hCl : C_l C = C_l C := rfl
  refine v_aload_n X 3 dL_law_1280 rfl ?_
  refine v_callV X hCl hCR (c_X7_modelCount (C_l C) k M cs ds mem sl tx  hSol) cls7 hSol.obj (by omega) mo_X7_modelCount m_400 m_860 m_861 m_862 m_21 ⟨Nat.le_of_ble_eq_true rfl, Nat.le_of_ble_eq_true rfl⟩ rfl rfl (Nat.le_of_ble_eq_true rfl) ⟨rfl, rfl⟩ ⟨(show 200 + 8 * i ≤ 601024 by omega), (show 6000 + 64 * i ≤ 7293034 by omega)⟩ dL_law_1281 (vI_in (fun r1 M1 h1 => ?_))
  have hRef1 : RefAt k M1 w cs ds mem sl tx := hRef.fr (fun i h _ => h1.2.2 i (Or.inr (by omega)))
  have F1 : M1 106 = .inl (kJ k, 1, .inr (.inl g)) := by rw [h1.2.2 106 (Or.inr (by omega))]; exact F106
  refine v_aload_n X 2 dL_law_1284 rfl ?_
  refine v_callV X hCl hCR (c_X8_modelCount (C_l C) k M1 w cs ds mem sl tx  hRef1) cls8 hRef1.obj (by omega) mo_X8_modelCount m_595 m_863 m_864 m_865 m_465 ⟨Nat.le_of_ble_eq_true rfl, Nat.le_of_ble_eq_true rfl⟩ rfl rfl (Nat.le_of_ble_eq_true rfl) ⟨rfl, rfl⟩ ⟨(show 200 + 8 * i ≤ 601024 by omega), (show 6000 + 64 * i ≤ 7293034 by omega)⟩ dL_law_1285 (vI_in (fun r2 M2 h2 => ?_))
  refine v_icmp_eq X 1688 dL_law_1288 (by decide) (fun c_1 => ?_) (fun c_1 => ?_)
  · refine v_widen (z' := (200 + 8 * (i + 4), 6000 + 64 * (i + 4))) (show 200 + 8 * i ≤ 200 + 8 * (i + 4) by omega) (show 6000 + 64 * i ≤ 6000 + 64 * (i + 4) by omega) ?_
    exact kk M2 ⟨0, _, _, _, _, _, g, h1.2.1.fr (fun i hi => h2.2 i (Or.inl hi)), h2.1.2, by rw [h2.2 106 (Or.inr (by omega))]; exact F1⟩
  · exact absurd (h1.1.trans h2.1.1.symm) c_1
set_option maxHeartbeats 4000000 in
set_option maxRecDepth 100000 in
theorem lwc_24 {C : CT} {k : KX} {b L i : Nat} {xs : Nat → Int32} {M : Mem} (X : OKc C k cL_law RL 7 ret) (hLC : LCX C b L xs) (hN : 107 ≤ kN k) (hi : i + 3 < L) (hI : LInv k M) (kk : ∀ M', LInv k M' → V C k 7 (200 + 8 * (i + 4), 6000 + 64 * (i + 4)) M' 1688 [(4, .int (nI i)), (3, .ref (ad k 106)), (2, .ref (ad k 93)), (1, .ref (ad k 0)), (0, .ref b)] []) : V C k 7 (200 + 8 * i, 6000 + 64 * i) M 1293 [(4, .int (nI i)), (3, .ref (ad k 106)), (2, .ref (ad k 93)), (1, .ref (ad k 0)), (0, .ref b)] [] := by
  obtain ⟨hCR, hst0, ht, hnc, hX, hbl, hbA, hL⟩ := hLC
  obtain ⟨w, cs, ds, mem, sl, tx, g, hSol, hRef, F106⟩ := hI
  have hCl : C_l C = C_l C := rfl
  refine v_aload_n X 3 dL_law_1293 rfl ?_
  refine v_aload_n X 4 dL_law_1294 rfl ?_
  refine v_iload X 0 dL_law_1295 rfl ?_
  refine v_iconst X (v := nI 1) (by decide) dL_law_1297 ?_
  refine v_addN X dL_law_1298 ?_
  refine v_sld X hX hbl hbA (by omega) (by omega) dL_law_1299 ?_
  refine v_callV X hCl hCR (c_X7_model (C_l C) k M cs ds mem sl tx (xs (i + 1)) hSol) cls7 hSol.obj (by omega) mo_X7_model m_404 m_866 m_867 m_868 m_21 ⟨Nat.le_of_ble_eq_true rfl, Nat.le_of_ble_eq_true rfl⟩ rfl rfl (Nat.le_of_ble_eq_true rfl) ⟨rfl, rfl⟩ ⟨(show 200 + 8 * i ≤ 601024 by omega), (show 6000 + 64 * i ≤ 7293034 by omega)⟩ dL_law_1300 (vI_in (fun r1 M1 h1 => ?_))
  have hRef1 : RefAt k M1 w cs ds mem sl tx := hRef.fr (fun i h _ => h1.2.2 i (Or.inr (by omega)))
  have F1 : M1 106 = .inl (kJ k, 1, .inr (.inl g)) := by rw [h1.2.2 106 (Or.inr (by omega))]; exact F106
  refine v_aload_n X 2 dL_law_1303 rfl ?_
  refine v_aload_n X 4 dL_law_1304 rfl ?_
  refine v_iload X 0 dL_law_1305 rfl ?_
  refine v_iconst X (v := nI 1) (by decide) dL_law_1307 ?_
  refine v_addN X dL_law_1308 ?_
  refine v_sld X hX hbl hbA (by omega) (by omega) dL_law_1309 ?_
  refine v_callV X hCl hCR (c_X8_model (C_l C) k M1 w cs ds mem sl tx (xs (i + 1)) hRef1) cls8 hRef1.obj (by omega) mo_X8_model m_602 m_869 m_870 m_871 m_465 ⟨Nat.le_of_ble_eq_true rfl, Nat.le_of_ble_eq_true rfl⟩ rfl rfl (Nat.le_of_ble_eq_true rfl) ⟨rfl, rfl⟩ ⟨(show 200 + 8 * i ≤ 601024 by omega), (show 6000 + 64 * i ≤ 7293034 by omega)⟩ dL_law_1310 (vI_in (fun r2 M2 h2 => ?_))
  refine v_icmp_eq X 1688 dL_law_1313 (by decide) (fun c_1 => ?_) (fun c_1 => ?_)
  · refine v_widen (z' := (200 + 8 * (i + 4), 6000 + 64 * (i + 4))) (show 200 + 8 * i ≤ 200 + 8 * (i + 4) by omega) (show 6000 + 64 * i ≤ 6000 + 64 * (i + 4) by omega) ?_
    exact kk M2 ⟨0, _, _, _, _, _, g, h1.2.1.fr (fun i hi => h2.2 i (Or.inl hi)), h2.1.2, by rw [h2.2 106 (Or.inr (by omega))]; exact F1⟩
  · exact absurd (h1.1.trans h2.1.1.symm) c_1
set_option maxHeartbeats 4000000 in
set_option maxRecDepth 100000 in
theorem lwc_25 {C : CT} {k : KX} {b L i : Nat} {xs : Nat → Int32} {M : Mem} (X : OKc C k cL_law RL 7 ret) (hLC : LCX C b L xs) (hN : 107 ≤ kN k) (hi : i + 3 < L) (hI : LInv k M) (kk : ∀ M', LInv k M' → V C k 7 (200 + 8 * (i + 4), 6000 + 64 * (i + 4)) M' 1688 [(4, .int (nI i)), (3, .ref (ad k 106)), (2, .ref (ad k 93)), (1, .ref (ad k 0)), (0, .ref b)] []) : V C k 7 (200 + 8 * i, 6000 + 64 * i) M 1318 [(4, .int (nI i)), (3, .ref (ad k 106)), (2, .ref (ad k 93)), (1, .ref (ad k 0)), (0, .ref b)] [] := by
  obtain ⟨hCR, hst0, ht, hnc, hX, hbl, hbA, hL⟩ := hLC
  obtain ⟨w, cs, ds, mem, sl, tx, g, hSol, hRef, F106⟩ := hI
  have hCl : C_l C = C_l C := rfl
  refine v_aload_n X 3 dL_law_1318 rfl ?_
  refine v_aload_n X 4 dL_law_1319 rfl ?_
  refine v_iload X 0 dL_law_1320 rfl ?_
  refine v_iconst X (v := nI 1) (by decide) dL_law_1322 ?_
  refine v_addN X dL_law_1323 ?_
  refine v_sld X hX hbl hbA (by omega) (by omega) dL_law_1324 ?_
  refine v_aload_n X 4 dL_law_1325 rfl ?_
  refine v_iload X 0 dL_law_1326 rfl ?_
  refine v_iconst X (v := nI 2) (by decide) dL_law_1328 ?_
  refine v_addN X dL_law_1329 ?_
  refine v_sld X hX hbl hbA (by omega) (by omega) dL_law_1330 ?_
  refine v_aload_n X 1 dL_law_1331 rfl ?_
  refine v_callL X ht hnc hCl hCR (c_L_impliesClause (C_l C) hst0 M g k cs ds mem sl tx (xs (i + 1)) (xs (i + 2)) hN hSol F106) mo_L_impliesClause m_710 m_872 m_873 m_738 ⟨Nat.le_of_ble_eq_true rfl, Nat.le_of_ble_eq_true rfl⟩ rfl rfl (Nat.le_of_ble_eq_true rfl) ⟨(show 200 + 8 * i + 1 ≤ 601024 by omega), (show 6000 + 64 * i + 6 ≤ 7293034 by omega)⟩ dL_law_1332 (vI_in (fun kv M1 h1 => ?_))
  have hf1 := wf_impliesClause h1
  have hRef1 := hRef.fr hf1
  refine v_istore X [(5, .int kv), (4, .int (nI i)), (3, .ref (ad k 106)), (2, .ref (ad k 93)), (1, .ref (ad k 0)), (0, .ref b)] dL_law_1335 (by decide) rfl ?_
  refine v_aload_n X 3 dL_law_1337 rfl ?_
  refine v_aload_n X 5 dL_law_1338 rfl ?_
  refine v_iload X 1 dL_law_1339 rfl ?_
  refine v_iconst X (v := nI 1) (by decide) dL_law_1341 ?_
  refine v_addN X dL_law_1342 ?_
  refine v_sld X hX hbl hbA (by omega) (by omega) dL_law_1343 ?_
  refine v_aload_n X 5 dL_law_1344 rfl ?_
  refine v_iload X 1 dL_law_1345 rfl ?_
  refine v_iconst X (v := nI 2) (by decide) dL_law_1347 ?_
  refine v_addN X dL_law_1348 ?_
  refine v_sld X hX hbl hbA (by omega) (by omega) dL_law_1349 ?_
  refine v_callV X hCl hCR (c_X8_impliesClause (C_l C) k M1 w cs ds mem sl tx (xs (i + 1)) (xs (i + 2)) hRef1) cls8 hRef1.obj (by omega) mo_X8_impliesClause m_607 m_874 m_875 m_876 m_465 ⟨Nat.le_of_ble_eq_true rfl, Nat.le_of_ble_eq_true rfl⟩ rfl rfl (Nat.le_of_ble_eq_true rfl) ⟨rfl, rfl⟩ ⟨(show 200 + 8 * i + 1 ≤ 601024 by omega), (show 6000 + 64 * i + 6 ≤ 7293034 by omega)⟩ dL_law_1350 (vI_in (fun bv M2 h2 => ?_))
  obtain ⟨w2, cs2, ds2, mem2, sl2, tx2, g2, hkk, hw3, hS2, hR2, F2, hg2⟩ := mt_impliesClause F106 hRef h1 h2
  subst hkk
  refine v_istore X [(6, .int bv), (5, .int (nI w2)), (4, .int (nI i)), (3, .ref (ad k 106)), (2, .ref (ad k 93)), (1, .ref (ad k 0)), (0, .ref b)] dL_law_1353 (by decide) rfl ?_
  refine v_aload_n X 4 dL_law_1355 rfl ?_
  refine v_callV X hCl hCR (c_X8_thrown (C_l C) k M2 w2 cs2 ds2 mem2 sl2 tx2 hR2) cls8 hR2.obj (by omega) mo_X8_thrown m_456 m_742 m_743 m_744 m_465 ⟨Nat.le_of_ble_eq_true rfl, Nat.le_of_ble_eq_true rfl⟩ rfl rfl (Nat.le_of_ble_eq_true rfl) ⟨rfl, rfl⟩ ⟨(show 200 + 8 * i + 1 ≤ 601024 by omega), (show 6000 + 64 * i + 6 ≤ 7293034 by omega)⟩ dL_law_1356 (vP_in ?_)
  refine v_iload X 1 dL_law_1359 rfl ?_
  refine v_ceqN X 1366 (by omega) (by omega) dL_law_1361 (by decide) (fun c_1 => ?_) (fun c_1 => ?_)
  · refine v_iload X 1 dL_law_1366 rfl ?_
    refine v_ineN X 1390 (by omega) dL_law_1368 (by decide) (fun c_2 => ?_) (fun c_2 => ?_)
    · refine v_goto X 1688 dL_law_1390 (by decide) ?_
      refine v_widen (z' := (200 + 8 * (i + 4), 6000 + 64 * (i + 4))) (show 200 + 8 * i + 1 ≤ 200 + 8 * (i + 4) by omega) (show 6000 + 64 * i + 6 ≤ 6000 + 64 * (i + 4) by omega) ?_
      refine v_lv [2, 3, 4, 5, 6] rfl ?_
      exact kk M2 ⟨w2, cs2, ds2, mem2, sl2, tx2, g2, hS2, hR2, F2⟩
    · refine v_aload_n X 3 dL_law_1371 rfl ?_
      refine v_iconst X (v := nI 0) (by decide) dL_law_1372 ?_
      refine v_lald X (j := 0) F2 (by omega) (by decide) (by decide) dL_law_1373 ?_
      refine v_iload X 0 dL_law_1374 rfl ?_
      refine v_if_eq X 1383 dL_law_1376 (by decide) (fun c_3 => ?_) (fun c_3 => ?_)
      · refine v_lconst X (v := 0) (by decide) dL_law_1383 ?_
        refine v_lcmp X dL_law_1384 ?_
        refine v_if_eq X 1390 dL_law_1385 (by decide) (fun c_4 => ?_) (fun c_4 => ?_)
        · refine v_goto X 1688 dL_law_1390 (by decide) ?_
          refine v_widen (z' := (200 + 8 * (i + 4), 6000 + 64 * (i + 4))) (show 200 + 8 * i + 1 ≤ 200 + 8 * (i + 4) by omega) (show 6000 + 64 * i + 6 ≤ 6000 + 64 * (i + 4) by omega) ?_
          refine v_lv [2, 3, 4, 5, 6] rfl ?_
          exact kk M2 ⟨w2, cs2, ds2, mem2, sl2, tx2, g2, hS2, hR2, F2⟩
        · exact absurd ((lg_cmp_eq _ _).mpr ((hg2 c_2).trans (z_long c_3))) c_4
      · refine v_lconst X (v := 1) (by decide) dL_law_1379 ?_
        refine v_goto X 1384 dL_law_1380 (by decide) ?_
        refine v_lcmp X dL_law_1384 ?_
        refine v_if_eq X 1390 dL_law_1385 (by decide) (fun c_5 => ?_) (fun c_5 => ?_)
        · refine v_goto X 1688 dL_law_1390 (by decide) ?_
          refine v_widen (z' := (200 + 8 * (i + 4), 6000 + 64 * (i + 4))) (show 200 + 8 * i + 1 ≤ 200 + 8 * (i + 4) by omega) (show 6000 + 64 * i + 6 ≤ 6000 + 64 * (i + 4) by omega) ?_
          refine v_lv [2, 3, 4, 5, 6] rfl ?_
          exact kk M2 ⟨w2, cs2, ds2, mem2, sl2, tx2, g2, hS2, hR2, F2⟩
        · exact absurd ((lg_cmp_eq _ _).mpr ((hg2 c_2).trans (b_long (bo_impliesClause h2 (by rw [c_2] at hR2; exact hR2)) c_3))) c_5
  · exact absurd rfl c_1
set_option maxHeartbeats 4000000 in
set_option maxRecDepth 100000 in
theorem lwc_26 {C : CT} {k : KX} {b L i : Nat} {xs : Nat → Int32} {M : Mem} (X : OKc C k cL_law RL 7 ret) (hLC : LCX C b L xs) (hN : 107 ≤ kN k) (hi : i + 3 < L) (hI : LInv k M) (kk : ∀ M', LInv k M' → V C k 7 (200 + 8 * (i + 4), 6000 + 64 * (i + 4)) M' 1688 [(4, .int (nI i)), (3, .ref (ad k 106)), (2, .ref (ad k 93)), (1, .ref (ad k 0)), (0, .ref b)] []) : V C k 7 (200 + 8 * i, 6000 + 64 * i) M 1393 [(4, .int (nI i)), (3, .ref (ad k 106)), (2, .ref (ad k 93)), (1, .ref (ad k 0)), (0, .ref b)] [] := by
  obtain ⟨hCR, hst0, ht, hnc, hX, hbl, hbA, hL⟩ := hLC
  obtain ⟨w, cs, ds, mem, sl, tx, g, hSol, hRef, F106⟩ := hI
  have hCl : C_l C = C_l C := rfl
  refine v_aload_n X 3 dL_law_1393 rfl ?_
  refine v_aload_n X 4 dL_law_1394 rfl ?_
  refine v_iload X 0 dL_law_1395 rfl ?_
  refine v_iconst X (v := nI 1) (by decide) dL_law_1397 ?_
  refine v_addN X dL_law_1398 ?_
  refine v_sld X hX hbl hbA (by omega) (by omega) dL_law_1399 ?_
  refine v_aload_n X 4 dL_law_1400 rfl ?_
  refine v_iload X 0 dL_law_1401 rfl ?_
  refine v_iconst X (v := nI 2) (by decide) dL_law_1403 ?_
  refine v_addN X dL_law_1404 ?_
  refine v_sld X hX hbl hbA (by omega) (by omega) dL_law_1405 ?_
  refine v_aload_n X 1 dL_law_1406 rfl ?_
  refine v_callL X ht hnc hCl hCR (c_L_impliesParity (C_l C) hst0 M g k cs ds mem sl tx (xs (i + 1)) (xs (i + 2)) hN hSol F106) mo_L_impliesParity m_714 m_877 m_878 m_738 ⟨Nat.le_of_ble_eq_true rfl, Nat.le_of_ble_eq_true rfl⟩ rfl rfl (Nat.le_of_ble_eq_true rfl) ⟨(show 200 + 8 * i + 1 ≤ 601024 by omega), (show 6000 + 64 * i + 6 ≤ 7293034 by omega)⟩ dL_law_1407 (vI_in (fun kv M1 h1 => ?_))
  have hf1 := wf_impliesParity h1
  have hRef1 := hRef.fr hf1
  refine v_istore X [(5, .int kv), (4, .int (nI i)), (3, .ref (ad k 106)), (2, .ref (ad k 93)), (1, .ref (ad k 0)), (0, .ref b)] dL_law_1410 (by decide) rfl ?_
  refine v_aload_n X 3 dL_law_1412 rfl ?_
  refine v_aload_n X 5 dL_law_1413 rfl ?_
  refine v_iload X 1 dL_law_1414 rfl ?_
  refine v_iconst X (v := nI 1) (by decide) dL_law_1416 ?_
  refine v_addN X dL_law_1417 ?_
  refine v_sld X hX hbl hbA (by omega) (by omega) dL_law_1418 ?_
  refine v_aload_n X 5 dL_law_1419 rfl ?_
  refine v_iload X 1 dL_law_1420 rfl ?_
  refine v_iconst X (v := nI 2) (by decide) dL_law_1422 ?_
  refine v_addN X dL_law_1423 ?_
  refine v_sld X hX hbl hbA (by omega) (by omega) dL_law_1424 ?_
  refine v_callV X hCl hCR (c_X8_impliesParity (C_l C) k M1 w cs ds mem sl tx (xs (i + 1)) (xs (i + 2)) hRef1) cls8 hRef1.obj (by omega) mo_X8_impliesParity m_608 m_879 m_880 m_881 m_465 ⟨Nat.le_of_ble_eq_true rfl, Nat.le_of_ble_eq_true rfl⟩ rfl rfl (Nat.le_of_ble_eq_true rfl) ⟨rfl, rfl⟩ ⟨(show 200 + 8 * i + 1 ≤ 601024 by omega), (show 6000 + 64 * i + 6 ≤ 7293034 by omega)⟩ dL_law_1425 (vI_in (fun bv M2 h2 => ?_))
  obtain ⟨w2, cs2, ds2, mem2, sl2, tx2, g2, hkk, hw3, hS2, hR2, F2, hg2⟩ := mt_impliesParity F106 hRef h1 h2
  subst hkk
  refine v_istore X [(6, .int bv), (5, .int (nI w2)), (4, .int (nI i)), (3, .ref (ad k 106)), (2, .ref (ad k 93)), (1, .ref (ad k 0)), (0, .ref b)] dL_law_1428 (by decide) rfl ?_
  refine v_aload_n X 4 dL_law_1430 rfl ?_
  refine v_callV X hCl hCR (c_X8_thrown (C_l C) k M2 w2 cs2 ds2 mem2 sl2 tx2 hR2) cls8 hR2.obj (by omega) mo_X8_thrown m_456 m_742 m_743 m_744 m_465 ⟨Nat.le_of_ble_eq_true rfl, Nat.le_of_ble_eq_true rfl⟩ rfl rfl (Nat.le_of_ble_eq_true rfl) ⟨rfl, rfl⟩ ⟨(show 200 + 8 * i + 1 ≤ 601024 by omega), (show 6000 + 64 * i + 6 ≤ 7293034 by omega)⟩ dL_law_1431 (vP_in ?_)
  refine v_iload X 1 dL_law_1434 rfl ?_
  refine v_ceqN X 1441 (by omega) (by omega) dL_law_1436 (by decide) (fun c_1 => ?_) (fun c_1 => ?_)
  · refine v_iload X 1 dL_law_1441 rfl ?_
    refine v_ineN X 1465 (by omega) dL_law_1443 (by decide) (fun c_2 => ?_) (fun c_2 => ?_)
    · refine v_goto X 1688 dL_law_1465 (by decide) ?_
      refine v_widen (z' := (200 + 8 * (i + 4), 6000 + 64 * (i + 4))) (show 200 + 8 * i + 1 ≤ 200 + 8 * (i + 4) by omega) (show 6000 + 64 * i + 6 ≤ 6000 + 64 * (i + 4) by omega) ?_
      refine v_lv [2, 3, 4, 5, 6] rfl ?_
      exact kk M2 ⟨w2, cs2, ds2, mem2, sl2, tx2, g2, hS2, hR2, F2⟩
    · refine v_aload_n X 3 dL_law_1446 rfl ?_
      refine v_iconst X (v := nI 0) (by decide) dL_law_1447 ?_
      refine v_lald X (j := 0) F2 (by omega) (by decide) (by decide) dL_law_1448 ?_
      refine v_iload X 0 dL_law_1449 rfl ?_
      refine v_if_eq X 1458 dL_law_1451 (by decide) (fun c_3 => ?_) (fun c_3 => ?_)
      · refine v_lconst X (v := 0) (by decide) dL_law_1458 ?_
        refine v_lcmp X dL_law_1459 ?_
        refine v_if_eq X 1465 dL_law_1460 (by decide) (fun c_4 => ?_) (fun c_4 => ?_)
        · refine v_goto X 1688 dL_law_1465 (by decide) ?_
          refine v_widen (z' := (200 + 8 * (i + 4), 6000 + 64 * (i + 4))) (show 200 + 8 * i + 1 ≤ 200 + 8 * (i + 4) by omega) (show 6000 + 64 * i + 6 ≤ 6000 + 64 * (i + 4) by omega) ?_
          refine v_lv [2, 3, 4, 5, 6] rfl ?_
          exact kk M2 ⟨w2, cs2, ds2, mem2, sl2, tx2, g2, hS2, hR2, F2⟩
        · exact absurd ((lg_cmp_eq _ _).mpr ((hg2 c_2).trans (z_long c_3))) c_4
      · refine v_lconst X (v := 1) (by decide) dL_law_1454 ?_
        refine v_goto X 1459 dL_law_1455 (by decide) ?_
        refine v_lcmp X dL_law_1459 ?_
        refine v_if_eq X 1465 dL_law_1460 (by decide) (fun c_5 => ?_) (fun c_5 => ?_)
        · refine v_goto X 1688 dL_law_1465 (by decide) ?_
          refine v_widen (z' := (200 + 8 * (i + 4), 6000 + 64 * (i + 4))) (show 200 + 8 * i + 1 ≤ 200 + 8 * (i + 4) by omega) (show 6000 + 64 * i + 6 ≤ 6000 + 64 * (i + 4) by omega) ?_
          refine v_lv [2, 3, 4, 5, 6] rfl ?_
          exact kk M2 ⟨w2, cs2, ds2, mem2, sl2, tx2, g2, hS2, hR2, F2⟩
        · exact absurd ((lg_cmp_eq _ _).mpr ((hg2 c_2).trans (b_long (bo_impliesParity h2 (by rw [c_2] at hR2; exact hR2)) c_3))) c_5
  · exact absurd rfl c_1
set_option maxHeartbeats 4000000 in
set_option maxRecDepth 100000 in
theorem lwc_27 {C : CT} {k : KX} {b L i : Nat} {xs : Nat → Int32} {M : Mem} (X : OKc C k cL_law RL 7 ret) (hLC : LCX C b L xs) (hN : 107 ≤ kN k) (hi : i + 3 < L) (hI : LInv k M) (kk : ∀ M', LInv k M' → V C k 7 (200 + 8 * (i + 4), 6000 + 64 * (i + 4)) M' 1688 [(4, .int (nI i)), (3, .ref (ad k 106)), (2, .ref (ad k 93)), (1, .ref (ad k 0)), (0, .ref b)] []) : V C k 7 (200 + 8 * i, 6000 + 64 * i) M 1468 [(4, .int (nI i)), (3, .ref (ad k 106)), (2, .ref (ad k 93)), (1, .ref (ad k 0)), (0, .ref b)] [] := by
  obtain ⟨hCR, hst0, ht, hnc, hX, hbl, hbA, hL⟩ := hLC
  obtain ⟨w, cs, ds, mem, sl, tx, g, hSol, hRef, F106⟩ := hI
  have hCl : C_l C = C_l C := rfl
  refine v_aload_n X 3 dL_law_1468 rfl ?_
  refine v_callV X hCl hCR (c_X7_core (C_l C) k M cs ds mem sl tx  hSol) cls7 hSol.obj (by omega) mo_X7_core m_413 m_882 m_883 m_884 m_21 ⟨Nat.le_of_ble_eq_true rfl, Nat.le_of_ble_eq_true rfl⟩ rfl rfl (Nat.le_of_ble_eq_true rfl) ⟨rfl, rfl⟩ ⟨(show 200 + 8 * i ≤ 601024 by omega), (show 6000 + 64 * i ≤ 7293034 by omega)⟩ dL_law_1469 (vI_in (fun r1 M1 h1 => ?_))
  have hRef1 : RefAt k M1 w cs ds mem sl tx := hRef.fr (fun i h _ => h1.2.2 i (Or.inr (by omega)))
  have F1 : M1 106 = .inl (kJ k, 1, .inr (.inl g)) := by rw [h1.2.2 106 (Or.inr (by omega))]; exact F106
  refine v_aload_n X 2 dL_law_1472 rfl ?_
  refine v_callV X hCl hCR (c_X8_core (C_l C) k M1 w cs ds mem sl tx  hRef1) cls8 hRef1.obj (by omega) mo_X8_core m_610 m_885 m_886 m_887 m_465 ⟨Nat.le_of_ble_eq_true rfl, Nat.le_of_ble_eq_true rfl⟩ rfl rfl (Nat.le_of_ble_eq_true rfl) ⟨rfl, rfl⟩ ⟨(show 200 + 8 * i ≤ 601024 by omega), (show 6000 + 64 * i ≤ 7293034 by omega)⟩ dL_law_1473 (vI_in (fun r2 M2 h2 => ?_))
  refine v_icmp_eq X 1688 dL_law_1476 (by decide) (fun c_1 => ?_) (fun c_1 => ?_)
  · refine v_widen (z' := (200 + 8 * (i + 4), 6000 + 64 * (i + 4))) (show 200 + 8 * i ≤ 200 + 8 * (i + 4) by omega) (show 6000 + 64 * i ≤ 6000 + 64 * (i + 4) by omega) ?_
    exact kk M2 ⟨0, _, _, _, _, _, g, h1.2.1.fr (fun i hi => h2.2 i (Or.inl hi)), h2.1.2, by rw [h2.2 106 (Or.inr (by omega))]; exact F1⟩
  · exact absurd (h1.1.trans h2.1.1.symm) c_1
set_option maxHeartbeats 4000000 in
set_option maxRecDepth 100000 in
theorem lwc_28 {C : CT} {k : KX} {b L i : Nat} {xs : Nat → Int32} {M : Mem} (X : OKc C k cL_law RL 7 ret) (hLC : LCX C b L xs) (hN : 107 ≤ kN k) (hi : i + 3 < L) (hI : LInv k M) (kk : ∀ M', LInv k M' → V C k 7 (200 + 8 * (i + 4), 6000 + 64 * (i + 4)) M' 1688 [(4, .int (nI i)), (3, .ref (ad k 106)), (2, .ref (ad k 93)), (1, .ref (ad k 0)), (0, .ref b)] []) : V C k 7 (200 + 8 * i, 6000 + 64 * i) M 1481 [(4, .int (nI i)), (3, .ref (ad k 106)), (2, .ref (ad k 93)), (1, .ref (ad k 0)), (0, .ref b)] [] := by
  obtain ⟨hCR, hst0, ht, hnc, hX, hbl, hbA, hL⟩ := hLC
  obtain ⟨w, cs, ds, mem, sl, tx, g, hSol, hRef, F106⟩ := hI
  have hCl : C_l C = C_l C := rfl
  refine v_aload_n X 3 dL_law_1481 rfl ?_
  refine v_callV X hCl hCR (c_X7_rank (C_l C) k M cs ds mem sl tx  hSol) cls7 hSol.obj (by omega) mo_X7_rank m_417 m_888 m_889 m_890 m_21 ⟨Nat.le_of_ble_eq_true rfl, Nat.le_of_ble_eq_true rfl⟩ rfl rfl (Nat.le_of_ble_eq_true rfl) ⟨rfl, rfl⟩ ⟨(show 200 + 8 * i ≤ 601024 by omega), (show 6000 + 64 * i ≤ 7293034 by omega)⟩ dL_law_1482 (vI_in (fun r1 M1 h1 => ?_))
  have hRef1 : RefAt k M1 w cs ds mem sl tx := hRef.fr (fun i h _ => h1.2.2 i (Or.inr (by omega)))
  have F1 : M1 106 = .inl (kJ k, 1, .inr (.inl g)) := by rw [h1.2.2 106 (Or.inr (by omega))]; exact F106
  refine v_aload_n X 2 dL_law_1485 rfl ?_
  refine v_callV X hCl hCR (c_X8_rank (C_l C) k M1 w cs ds mem sl tx  hRef1) cls8 hRef1.obj (by omega) mo_X8_rank m_617 m_891 m_892 m_893 m_465 ⟨Nat.le_of_ble_eq_true rfl, Nat.le_of_ble_eq_true rfl⟩ rfl rfl (Nat.le_of_ble_eq_true rfl) ⟨rfl, rfl⟩ ⟨(show 200 + 8 * i ≤ 601024 by omega), (show 6000 + 64 * i ≤ 7293034 by omega)⟩ dL_law_1486 (vI_in (fun r2 M2 h2 => ?_))
  refine v_icmp_eq X 1688 dL_law_1489 (by decide) (fun c_1 => ?_) (fun c_1 => ?_)
  · refine v_widen (z' := (200 + 8 * (i + 4), 6000 + 64 * (i + 4))) (show 200 + 8 * i ≤ 200 + 8 * (i + 4) by omega) (show 6000 + 64 * i ≤ 6000 + 64 * (i + 4) by omega) ?_
    exact kk M2 ⟨0, _, _, _, _, _, g, h1.2.1.fr (fun i hi => h2.2 i (Or.inl hi)), h2.1.2, by rw [h2.2 106 (Or.inr (by omega))]; exact F1⟩
  · exact absurd (h1.1.trans h2.1.1.symm) c_1
set_option maxHeartbeats 4000000 in
set_option maxRecDepth 100000 in
theorem lwc_29 {C : CT} {k : KX} {b L i : Nat} {xs : Nat → Int32} {M : Mem} (X : OKc C k cL_law RL 7 ret) (hLC : LCX C b L xs) (hN : 107 ≤ kN k) (hi : i + 3 < L) (hI : LInv k M) (kk : ∀ M', LInv k M' → V C k 7 (200 + 8 * (i + 4), 6000 + 64 * (i + 4)) M' 1688 [(4, .int (nI i)), (3, .ref (ad k 106)), (2, .ref (ad k 93)), (1, .ref (ad k 0)), (0, .ref b)] []) : V C k 7 (200 + 8 * i, 6000 + 64 * i) M 1494 [(4, .int (nI i)), (3, .ref (ad k 106)), (2, .ref (ad k 93)), (1, .ref (ad k 0)), (0, .ref b)] [] := by
  obtain ⟨hCR, hst0, ht, hnc, hX, hbl, hbA, hL⟩ := hLC
  obtain ⟨w, cs, ds, mem, sl, tx, g, hSol, hRef, F106⟩ := hI
  have hCl : C_l C = C_l C := rfl
  refine v_aload_n X 3 dL_law_1494 rfl ?_
  refine v_callV X hCl hCR (c_X7_isConsistent (C_l C) k M cs ds mem sl tx  hSol) cls7 hSol.obj (by omega) mo_X7_isConsistent m_418 m_894 m_895 m_896 m_21 ⟨Nat.le_of_ble_eq_true rfl, Nat.le_of_ble_eq_true rfl⟩ rfl rfl (Nat.le_of_ble_eq_true rfl) ⟨rfl, rfl⟩ ⟨(show 200 + 8 * i ≤ 601024 by omega), (show 6000 + 64 * i ≤ 7293034 by omega)⟩ dL_law_1495 (vI_in (fun r1 M1 h1 => ?_))
  have hRef1 : RefAt k M1 w cs ds mem sl tx := hRef.fr (fun i h _ => h1.2.2 i (Or.inr (by omega)))
  have F1 : M1 106 = .inl (kJ k, 1, .inr (.inl g)) := by rw [h1.2.2 106 (Or.inr (by omega))]; exact F106
  refine v_aload_n X 2 dL_law_1498 rfl ?_
  refine v_callV X hCl hCR (c_X8_isConsistent (C_l C) k M1 w cs ds mem sl tx  hRef1) cls8 hRef1.obj (by omega) mo_X8_isConsistent m_621 m_897 m_898 m_899 m_465 ⟨Nat.le_of_ble_eq_true rfl, Nat.le_of_ble_eq_true rfl⟩ rfl rfl (Nat.le_of_ble_eq_true rfl) ⟨rfl, rfl⟩ ⟨(show 200 + 8 * i ≤ 601024 by omega), (show 6000 + 64 * i ≤ 7293034 by omega)⟩ dL_law_1499 (vI_in (fun r2 M2 h2 => ?_))
  refine v_icmp_eq X 1688 dL_law_1502 (by decide) (fun c_1 => ?_) (fun c_1 => ?_)
  · refine v_widen (z' := (200 + 8 * (i + 4), 6000 + 64 * (i + 4))) (show 200 + 8 * i ≤ 200 + 8 * (i + 4) by omega) (show 6000 + 64 * i ≤ 6000 + 64 * (i + 4) by omega) ?_
    exact kk M2 ⟨0, _, _, _, _, _, g, h1.2.1.fr (fun i hi => h2.2 i (Or.inl hi)), h2.1.2, by rw [h2.2 106 (Or.inr (by omega))]; exact F1⟩
  · exact absurd (h1.1.trans h2.1.1.symm) c_1
set_option maxHeartbeats 4000000 in
set_option maxRecDepth 100000 in
theorem lwc_30 {C : CT} {k : KX} {b L i : Nat} {xs : Nat → Int32} {M : Mem} (X : OKc C k cL_law RL 7 ret) (hLC : LCX C b L xs) (hN : 107 ≤ kN k) (hi : i + 3 < L) (hI : LInv k M) (kk : ∀ M', LInv k M' → V C k 7 (200 + 8 * (i + 4), 6000 + 64 * (i + 4)) M' 1688 [(4, .int (nI i)), (3, .ref (ad k 106)), (2, .ref (ad k 93)), (1, .ref (ad k 0)), (0, .ref b)] []) : V C k 7 (200 + 8 * i, 6000 + 64 * i) M 1507 [(4, .int (nI i)), (3, .ref (ad k 106)), (2, .ref (ad k 93)), (1, .ref (ad k 0)), (0, .ref b)] [] := by
  obtain ⟨hCR, hst0, ht, hnc, hX, hbl, hbA, hL⟩ := hLC
  obtain ⟨w, cs, ds, mem, sl, tx, g, hSol, hRef, F106⟩ := hI
  have hCl : C_l C = C_l C := rfl
  refine v_aload_n X 3 dL_law_1507 rfl ?_
  refine v_aload_n X 4 dL_law_1508 rfl ?_
  refine v_iload X 0 dL_law_1509 rfl ?_
  refine v_iconst X (v := nI 1) (by decide) dL_law_1511 ?_
  refine v_addN X dL_law_1512 ?_
  refine v_sld X hX hbl hbA (by omega) (by omega) dL_law_1513 ?_
  refine v_aload_n X 1 dL_law_1514 rfl ?_
  refine v_callL X ht hnc hCl hCR (c_L_eliminatedRow (C_l C) hst0 M g k cs ds mem sl tx (xs (i + 1)) hN hSol F106) mo_L_eliminatedRow m_718 m_900 m_901 m_738 ⟨Nat.le_of_ble_eq_true rfl, Nat.le_of_ble_eq_true rfl⟩ rfl rfl (Nat.le_of_ble_eq_true rfl) ⟨(show 200 + 8 * i + 1 ≤ 601024 by omega), (show 6000 + 64 * i + 6 ≤ 7293034 by omega)⟩ dL_law_1515 (vI_in (fun kv M1 h1 => ?_))
  have hf1 := wf_eliminatedRow h1
  have hRef1 := hRef.fr hf1
  refine v_istore X [(5, .int kv), (4, .int (nI i)), (3, .ref (ad k 106)), (2, .ref (ad k 93)), (1, .ref (ad k 0)), (0, .ref b)] dL_law_1518 (by decide) rfl ?_
  refine v_aload_n X 3 dL_law_1520 rfl ?_
  refine v_aload_n X 5 dL_law_1521 rfl ?_
  refine v_iload X 1 dL_law_1522 rfl ?_
  refine v_iconst X (v := nI 1) (by decide) dL_law_1524 ?_
  refine v_addN X dL_law_1525 ?_
  refine v_sld X hX hbl hbA (by omega) (by omega) dL_law_1526 ?_
  refine v_callV X hCl hCR (c_X8_eliminatedRow (C_l C) k M1 w cs ds mem sl tx (xs (i + 1)) hRef1) cls8 hRef1.obj (by omega) mo_X8_eliminatedRow m_622 m_902 m_903 m_904 m_465 ⟨Nat.le_of_ble_eq_true rfl, Nat.le_of_ble_eq_true rfl⟩ rfl rfl (Nat.le_of_ble_eq_true rfl) ⟨rfl, rfl⟩ ⟨(show 200 + 8 * i + 1 ≤ 601024 by omega), (show 6000 + 64 * i + 6 ≤ 7293034 by omega)⟩ dL_law_1527 (vI_in (fun bv M2 h2 => ?_))
  obtain ⟨w2, cs2, ds2, mem2, sl2, tx2, g2, hkk, hw3, hS2, hR2, F2, hg2⟩ := mt_eliminatedRow F106 hRef h1 h2
  subst hkk
  refine v_istore X [(6, .int bv), (5, .int (nI w2)), (4, .int (nI i)), (3, .ref (ad k 106)), (2, .ref (ad k 93)), (1, .ref (ad k 0)), (0, .ref b)] dL_law_1530 (by decide) rfl ?_
  refine v_aload_n X 4 dL_law_1532 rfl ?_
  refine v_callV X hCl hCR (c_X8_thrown (C_l C) k M2 w2 cs2 ds2 mem2 sl2 tx2 hR2) cls8 hR2.obj (by omega) mo_X8_thrown m_456 m_742 m_743 m_744 m_465 ⟨Nat.le_of_ble_eq_true rfl, Nat.le_of_ble_eq_true rfl⟩ rfl rfl (Nat.le_of_ble_eq_true rfl) ⟨rfl, rfl⟩ ⟨(show 200 + 8 * i + 1 ≤ 601024 by omega), (show 6000 + 64 * i + 6 ≤ 7293034 by omega)⟩ dL_law_1533 (vP_in ?_)
  refine v_iload X 1 dL_law_1536 rfl ?_
  refine v_ceqN X 1543 (by omega) (by omega) dL_law_1538 (by decide) (fun c_1 => ?_) (fun c_1 => ?_)
  · refine v_iload X 1 dL_law_1543 rfl ?_
    refine v_ineN X 1560 (by omega) dL_law_1545 (by decide) (fun c_2 => ?_) (fun c_2 => ?_)
    · refine v_goto X 1688 dL_law_1560 (by decide) ?_
      refine v_widen (z' := (200 + 8 * (i + 4), 6000 + 64 * (i + 4))) (show 200 + 8 * i + 1 ≤ 200 + 8 * (i + 4) by omega) (show 6000 + 64 * i + 6 ≤ 6000 + 64 * (i + 4) by omega) ?_
      refine v_lv [2, 3, 4, 5, 6] rfl ?_
      exact kk M2 ⟨w2, cs2, ds2, mem2, sl2, tx2, g2, hS2, hR2, F2⟩
    · refine v_aload_n X 3 dL_law_1548 rfl ?_
      refine v_iconst X (v := nI 0) (by decide) dL_law_1549 ?_
      refine v_lald X (j := 0) F2 (by omega) (by decide) (by decide) dL_law_1550 ?_
      refine v_iload X 0 dL_law_1551 rfl ?_
      refine v_i2l X (v := (bv).toInt64) rfl dL_law_1553 ?_
      refine v_lcmp X dL_law_1554 ?_
      refine v_if_eq X 1560 dL_law_1555 (by decide) (fun c_3 => ?_) (fun c_3 => ?_)
      · refine v_goto X 1688 dL_law_1560 (by decide) ?_
        refine v_widen (z' := (200 + 8 * (i + 4), 6000 + 64 * (i + 4))) (show 200 + 8 * i + 1 ≤ 200 + 8 * (i + 4) by omega) (show 6000 + 64 * i + 6 ≤ 6000 + 64 * (i + 4) by omega) ?_
        refine v_lv [2, 3, 4, 5, 6] rfl ?_
        exact kk M2 ⟨w2, cs2, ds2, mem2, sl2, tx2, g2, hS2, hR2, F2⟩
      · exact absurd ((lg_cmp_eq _ _).mpr (hg2 c_2)) c_3
  · exact absurd rfl c_1
set_option maxHeartbeats 4000000 in
set_option maxRecDepth 100000 in
theorem lwc_31 {C : CT} {k : KX} {b L i : Nat} {xs : Nat → Int32} {M : Mem} (X : OKc C k cL_law RL 7 ret) (hLC : LCX C b L xs) (hN : 107 ≤ kN k) (hi : i + 3 < L) (hI : LInv k M) (kk : ∀ M', LInv k M' → V C k 7 (200 + 8 * (i + 4), 6000 + 64 * (i + 4)) M' 1688 [(4, .int (nI i)), (3, .ref (ad k 106)), (2, .ref (ad k 93)), (1, .ref (ad k 0)), (0, .ref b)] []) : V C k 7 (200 + 8 * i, 6000 + 64 * i) M 1563 [(4, .int (nI i)), (3, .ref (ad k 106)), (2, .ref (ad k 93)), (1, .ref (ad k 0)), (0, .ref b)] [] := by
  obtain ⟨hCR, hst0, ht, hnc, hX, hbl, hbA, hL⟩ := hLC
  obtain ⟨w, cs, ds, mem, sl, tx, g, hSol, hRef, F106⟩ := hI
  have hCl : C_l C = C_l C := rfl
  refine v_aload_n X 3 dL_law_1563 rfl ?_
  refine v_callV X hCl hCR (c_X7_solve (C_l C) k M cs ds mem sl tx  hSol) cls7 hSol.obj (by omega) mo_X7_solve m_428 m_905 m_906 m_907 m_21 ⟨Nat.le_of_ble_eq_true rfl, Nat.le_of_ble_eq_true rfl⟩ rfl rfl (Nat.le_of_ble_eq_true rfl) ⟨rfl, rfl⟩ ⟨(show 200 + 8 * i ≤ 601024 by omega), (show 6000 + 64 * i ≤ 7293034 by omega)⟩ dL_law_1564 (vI_in (fun r1 M1 h1 => ?_))
  have hRef1 : RefAt k M1 w cs ds mem sl tx := hRef.fr (fun i h _ => h1.2.2 i (Or.inr (by omega)))
  have F1 : M1 106 = .inl (kJ k, 1, .inr (.inl g)) := by rw [h1.2.2 106 (Or.inr (by omega))]; exact F106
  refine v_aload_n X 2 dL_law_1567 rfl ?_
  refine v_callV X hCl hCR (c_X8_solve (C_l C) k M1 w cs ds mem sl tx  hRef1) cls8 hRef1.obj (by omega) mo_X8_solve m_627 m_908 m_909 m_910 m_465 ⟨Nat.le_of_ble_eq_true rfl, Nat.le_of_ble_eq_true rfl⟩ rfl rfl (Nat.le_of_ble_eq_true rfl) ⟨rfl, rfl⟩ ⟨(show 200 + 8 * i ≤ 601024 by omega), (show 6000 + 64 * i ≤ 7293034 by omega)⟩ dL_law_1568 (vI_in (fun r2 M2 h2 => ?_))
  refine v_icmp_eq X 1688 dL_law_1571 (by decide) (fun c_1 => ?_) (fun c_1 => ?_)
  · refine v_widen (z' := (200 + 8 * (i + 4), 6000 + 64 * (i + 4))) (show 200 + 8 * i ≤ 200 + 8 * (i + 4) by omega) (show 6000 + 64 * i ≤ 6000 + 64 * (i + 4) by omega) ?_
    exact kk M2 ⟨0, _, _, _, _, _, g, h1.2.1.fr (fun i hi => h2.2 i (Or.inl hi)), h2.1.2, by rw [h2.2 106 (Or.inr (by omega))]; exact F1⟩
  · exact absurd (h1.1.trans h2.1.1.symm) c_1
set_option maxHeartbeats 4000000 in
set_option maxRecDepth 100000 in
theorem lwc_32 {C : CT} {k : KX} {b L i : Nat} {xs : Nat → Int32} {M : Mem} (X : OKc C k cL_law RL 7 ret) (hLC : LCX C b L xs) (hN : 107 ≤ kN k) (hi : i + 3 < L) (hI : LInv k M) (kk : ∀ M', LInv k M' → V C k 7 (200 + 8 * (i + 4), 6000 + 64 * (i + 4)) M' 1688 [(4, .int (nI i)), (3, .ref (ad k 106)), (2, .ref (ad k 93)), (1, .ref (ad k 0)), (0, .ref b)] []) : V C k 7 (200 + 8 * i, 6000 + 64 * i) M 1576 [(4, .int (nI i)), (3, .ref (ad k 106)), (2, .ref (ad k 93)), (1, .ref (ad k 0)), (0, .ref b)] [] := by
  obtain ⟨hCR, hst0, ht, hnc, hX, hbl, hbA, hL⟩ := hLC
  obtain ⟨w, cs, ds, mem, sl, tx, g, hSol, hRef, F106⟩ := hI
  have hCl : C_l C = C_l C := rfl
  refine v_aload_n X 3 dL_law_1576 rfl ?_
  refine v_aload_n X 4 dL_law_1577 rfl ?_
  refine v_iload X 0 dL_law_1578 rfl ?_
  refine v_iconst X (v := nI 1) (by decide) dL_law_1580 ?_
  refine v_addN X dL_law_1581 ?_
  refine v_sld X hX hbl hbA (by omega) (by omega) dL_law_1582 ?_
  refine v_aload_n X 1 dL_law_1583 rfl ?_
  refine v_callL X ht hnc hCl hCR (c_L_save (C_l C) hst0 M g k cs ds mem sl tx (xs (i + 1)) hN hSol F106) mo_L_save m_722 m_911 m_912 m_738 ⟨Nat.le_of_ble_eq_true rfl, Nat.le_of_ble_eq_true rfl⟩ rfl rfl (Nat.le_of_ble_eq_true rfl) ⟨(show 200 + 8 * i + 1 ≤ 601024 by omega), (show 6000 + 64 * i + 6 ≤ 7293034 by omega)⟩ dL_law_1584 (vI_in (fun kv M1 h1 => ?_))
  have hf1 := wf_save h1
  have hRef1 := hRef.fr hf1
  refine v_istore X [(5, .int kv), (4, .int (nI i)), (3, .ref (ad k 106)), (2, .ref (ad k 93)), (1, .ref (ad k 0)), (0, .ref b)] dL_law_1587 (by decide) rfl ?_
  refine v_aload_n X 3 dL_law_1589 rfl ?_
  refine v_aload_n X 5 dL_law_1590 rfl ?_
  refine v_iload X 1 dL_law_1591 rfl ?_
  refine v_iconst X (v := nI 1) (by decide) dL_law_1593 ?_
  refine v_addN X dL_law_1594 ?_
  refine v_sld X hX hbl hbA (by omega) (by omega) dL_law_1595 ?_
  refine v_callV X hCl hCR (c_X8_save (C_l C) k M1 w cs ds mem sl tx (xs (i + 1)) hRef1) cls8 hRef1.obj (by omega) mo_X8_save m_628 m_913 m_914 m_915 m_465 ⟨Nat.le_of_ble_eq_true rfl, Nat.le_of_ble_eq_true rfl⟩ rfl rfl (Nat.le_of_ble_eq_true rfl) ⟨rfl, rfl⟩ ⟨(show 200 + 8 * i + 1 ≤ 601024 by omega), (show 6000 + 64 * i + 6 ≤ 7293034 by omega)⟩ dL_law_1596 (vI_in (fun bv M2 h2 => ?_))
  obtain ⟨w2, cs2, ds2, mem2, sl2, tx2, g2, hkk, hw3, hS2, hR2, F2, hg2⟩ := mt_save F106 hRef h1 h2
  subst hkk
  refine v_istore X [(6, .int bv), (5, .int (nI w2)), (4, .int (nI i)), (3, .ref (ad k 106)), (2, .ref (ad k 93)), (1, .ref (ad k 0)), (0, .ref b)] dL_law_1599 (by decide) rfl ?_
  refine v_aload_n X 4 dL_law_1601 rfl ?_
  refine v_callV X hCl hCR (c_X8_thrown (C_l C) k M2 w2 cs2 ds2 mem2 sl2 tx2 hR2) cls8 hR2.obj (by omega) mo_X8_thrown m_456 m_742 m_743 m_744 m_465 ⟨Nat.le_of_ble_eq_true rfl, Nat.le_of_ble_eq_true rfl⟩ rfl rfl (Nat.le_of_ble_eq_true rfl) ⟨rfl, rfl⟩ ⟨(show 200 + 8 * i + 1 ≤ 601024 by omega), (show 6000 + 64 * i + 6 ≤ 7293034 by omega)⟩ dL_law_1602 (vP_in ?_)
  refine v_iload X 1 dL_law_1605 rfl ?_
  refine v_ceqN X 1612 (by omega) (by omega) dL_law_1607 (by decide) (fun c_1 => ?_) (fun c_1 => ?_)
  · refine v_iload X 1 dL_law_1612 rfl ?_
    refine v_ineN X 1629 (by omega) dL_law_1614 (by decide) (fun c_2 => ?_) (fun c_2 => ?_)
    · refine v_goto X 1688 dL_law_1629 (by decide) ?_
      refine v_widen (z' := (200 + 8 * (i + 4), 6000 + 64 * (i + 4))) (show 200 + 8 * i + 1 ≤ 200 + 8 * (i + 4) by omega) (show 6000 + 64 * i + 6 ≤ 6000 + 64 * (i + 4) by omega) ?_
      refine v_lv [2, 3, 4, 5, 6] rfl ?_
      exact kk M2 ⟨w2, cs2, ds2, mem2, sl2, tx2, g2, hS2, hR2, F2⟩
    · refine v_aload_n X 3 dL_law_1617 rfl ?_
      refine v_iconst X (v := nI 0) (by decide) dL_law_1618 ?_
      refine v_lald X (j := 0) F2 (by omega) (by decide) (by decide) dL_law_1619 ?_
      refine v_iload X 0 dL_law_1620 rfl ?_
      refine v_i2l X (v := (bv).toInt64) rfl dL_law_1622 ?_
      refine v_lcmp X dL_law_1623 ?_
      refine v_if_eq X 1629 dL_law_1624 (by decide) (fun c_3 => ?_) (fun c_3 => ?_)
      · refine v_goto X 1688 dL_law_1629 (by decide) ?_
        refine v_widen (z' := (200 + 8 * (i + 4), 6000 + 64 * (i + 4))) (show 200 + 8 * i + 1 ≤ 200 + 8 * (i + 4) by omega) (show 6000 + 64 * i + 6 ≤ 6000 + 64 * (i + 4) by omega) ?_
        refine v_lv [2, 3, 4, 5, 6] rfl ?_
        exact kk M2 ⟨w2, cs2, ds2, mem2, sl2, tx2, g2, hS2, hR2, F2⟩
      · exact absurd ((lg_cmp_eq _ _).mpr (hg2 c_2)) c_3
  · exact absurd rfl c_1
set_option maxHeartbeats 4000000 in
set_option maxRecDepth 100000 in
theorem lwc_33 {C : CT} {k : KX} {b L i : Nat} {xs : Nat → Int32} {M : Mem} (X : OKc C k cL_law RL 7 ret) (hLC : LCX C b L xs) (hN : 107 ≤ kN k) (hi : i + 3 < L) (hI : LInv k M) (kk : ∀ M', LInv k M' → V C k 7 (200 + 8 * (i + 4), 6000 + 64 * (i + 4)) M' 1688 [(4, .int (nI i)), (3, .ref (ad k 106)), (2, .ref (ad k 93)), (1, .ref (ad k 0)), (0, .ref b)] []) : V C k 7 (200 + 8 * i, 6000 + 64 * i) M 1632 [(4, .int (nI i)), (3, .ref (ad k 106)), (2, .ref (ad k 93)), (1, .ref (ad k 0)), (0, .ref b)] [] := by
  obtain ⟨hCR, hst0, ht, hnc, hX, hbl, hbA, hL⟩ := hLC
  obtain ⟨w, cs, ds, mem, sl, tx, g, hSol, hRef, F106⟩ := hI
  have hCl : C_l C = C_l C := rfl
  refine v_aload_n X 3 dL_law_1632 rfl ?_
  refine v_aload_n X 4 dL_law_1633 rfl ?_
  refine v_iload X 0 dL_law_1634 rfl ?_
  refine v_iconst X (v := nI 1) (by decide) dL_law_1636 ?_
  refine v_addN X dL_law_1637 ?_
  refine v_sld X hX hbl hbA (by omega) (by omega) dL_law_1638 ?_
  refine v_aload_n X 1 dL_law_1639 rfl ?_
  refine v_callL X ht hnc hCl hCR (c_L_restore (C_l C) hst0 M g k cs ds mem sl tx (xs (i + 1)) hN hSol F106) mo_L_restore m_726 m_916 m_917 m_738 ⟨Nat.le_of_ble_eq_true rfl, Nat.le_of_ble_eq_true rfl⟩ rfl rfl (Nat.le_of_ble_eq_true rfl) ⟨(show 200 + 8 * i + 2 ≤ 601024 by omega), (show 6000 + 64 * i + 12 ≤ 7293034 by omega)⟩ dL_law_1640 (vI_in (fun kv M1 h1 => ?_))
  have hf1 := wf_restore h1
  have hRef1 := hRef.fr hf1
  refine v_istore X [(5, .int kv), (4, .int (nI i)), (3, .ref (ad k 106)), (2, .ref (ad k 93)), (1, .ref (ad k 0)), (0, .ref b)] dL_law_1643 (by decide) rfl ?_
  refine v_aload_n X 3 dL_law_1645 rfl ?_
  refine v_aload_n X 5 dL_law_1646 rfl ?_
  refine v_iload X 1 dL_law_1647 rfl ?_
  refine v_iconst X (v := nI 1) (by decide) dL_law_1649 ?_
  refine v_addN X dL_law_1650 ?_
  refine v_sld X hX hbl hbA (by omega) (by omega) dL_law_1651 ?_
  refine v_callV X hCl hCR (c_X8_restore (C_l C) k M1 w cs ds mem sl tx (xs (i + 1)) hRef1) cls8 hRef1.obj (by omega) mo_X8_restore m_629 m_918 m_919 m_920 m_465 ⟨Nat.le_of_ble_eq_true rfl, Nat.le_of_ble_eq_true rfl⟩ rfl rfl (Nat.le_of_ble_eq_true rfl) ⟨rfl, rfl⟩ ⟨(show 200 + 8 * i + 2 ≤ 601024 by omega), (show 6000 + 64 * i + 12 ≤ 7293034 by omega)⟩ dL_law_1652 (vI_in (fun bv M2 h2 => ?_))
  obtain ⟨w2, cs2, ds2, mem2, sl2, tx2, g2, hkk, hw3, hS2, hR2, F2, hg2⟩ := mt_restore F106 hRef h1 h2
  subst hkk
  refine v_istore X [(6, .int bv), (5, .int (nI w2)), (4, .int (nI i)), (3, .ref (ad k 106)), (2, .ref (ad k 93)), (1, .ref (ad k 0)), (0, .ref b)] dL_law_1655 (by decide) rfl ?_
  refine v_aload_n X 4 dL_law_1657 rfl ?_
  refine v_callV X hCl hCR (c_X8_thrown (C_l C) k M2 w2 cs2 ds2 mem2 sl2 tx2 hR2) cls8 hR2.obj (by omega) mo_X8_thrown m_456 m_742 m_743 m_744 m_465 ⟨Nat.le_of_ble_eq_true rfl, Nat.le_of_ble_eq_true rfl⟩ rfl rfl (Nat.le_of_ble_eq_true rfl) ⟨rfl, rfl⟩ ⟨(show 200 + 8 * i + 2 ≤ 601024 by omega), (show 6000 + 64 * i + 12 ≤ 7293034 by omega)⟩ dL_law_1658 (vP_in ?_)
  refine v_iload X 1 dL_law_1661 rfl ?_
  refine v_ceqN X 1668 (by omega) (by omega) dL_law_1663 (by decide) (fun c_1 => ?_) (fun c_1 => ?_)
  · refine v_iload X 1 dL_law_1668 rfl ?_
    refine v_ineN X 1685 (by omega) dL_law_1670 (by decide) (fun c_2 => ?_) (fun c_2 => ?_)
    · refine v_goto X 1688 dL_law_1685 (by decide) ?_
      refine v_widen (z' := (200 + 8 * (i + 4), 6000 + 64 * (i + 4))) (show 200 + 8 * i + 2 ≤ 200 + 8 * (i + 4) by omega) (show 6000 + 64 * i + 12 ≤ 6000 + 64 * (i + 4) by omega) ?_
      refine v_lv [2, 3, 4, 5, 6] rfl ?_
      exact kk M2 ⟨w2, cs2, ds2, mem2, sl2, tx2, g2, hS2, hR2, F2⟩
    · refine v_aload_n X 3 dL_law_1673 rfl ?_
      refine v_iconst X (v := nI 0) (by decide) dL_law_1674 ?_
      refine v_lald X (j := 0) F2 (by omega) (by decide) (by decide) dL_law_1675 ?_
      refine v_iload X 0 dL_law_1676 rfl ?_
      refine v_i2l X (v := (bv).toInt64) rfl dL_law_1678 ?_
      refine v_lcmp X dL_law_1679 ?_
      refine v_if_eq X 1685 dL_law_1680 (by decide) (fun c_3 => ?_) (fun c_3 => ?_)
      · refine v_goto X 1688 dL_law_1685 (by decide) ?_
        refine v_widen (z' := (200 + 8 * (i + 4), 6000 + 64 * (i + 4))) (show 200 + 8 * i + 2 ≤ 200 + 8 * (i + 4) by omega) (show 6000 + 64 * i + 12 ≤ 6000 + 64 * (i + 4) by omega) ?_
        refine v_lv [2, 3, 4, 5, 6] rfl ?_
        exact kk M2 ⟨w2, cs2, ds2, mem2, sl2, tx2, g2, hS2, hR2, F2⟩
      · exact absurd ((lg_cmp_eq _ _).mpr (hg2 c_2)) c_3
  · exact absurd rfl c_1
