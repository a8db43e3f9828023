set_option maxHeartbeats 4000000 in
set_option maxRecDepth 100000 in
theorem c_X6_isAssigned (l : Launch) (k : KX) (M : Mem) (b : Nat) (tr : List Ent) (cf : Option Nat) (v : Nat) (hT : TrAt k M b tr cf) (hv : v < 32) : CM l yX6_isAssigned cX6_isAssigned 2 ((some .boolean)) { frames := 1, cells := 0, slots := 0, locals := 21 } k [.ref (ad k b), .int (nI v)] M (pP (.int (bI ((tA tr).testBit v))) M) := by
  refine CM.of (by decide) (Nat.le_of_ble_eq_true rfl) (fun C X hCl hCR rq => ?_)
  show V C k 2 (0, 0) M 0 [(0, .ref (ad k b)), (1, .int (nI v))] []
  obtain ⟨hN, hk, hc, o, lv, rs, F0, F1, F2, F3, ho, hv⟩ := id hT
  have hA := hk.A
  have hTT := hk.T
  have hBB := hk.B
  have hlen := hk.le
  have htL := tL_le tr
  refine v_aload_n X 0 dX6_isAssigned_0 rfl ?_
  refine v_get X cls6 F0 (by omega) 4 (by decide) m_191 rfl rfl dX6_isAssigned_1 ?_
  refine v_iload_n X 1 dX6_isAssigned_4 rfl ?_
  refine v_callSN X hCl hCR (c_X7_contains l k M (tA tr) v (by omega) (by omega)) mo_X7_contains m_18 nw_31 m_20 m_21 (by decide) rfl rfl (Nat.le_of_ble_eq_true rfl) ⟨rfl, rfl⟩ ⟨by decide, by decide⟩ dX6_isAssigned_5 (vP_in ?_)
  exact v_iret X rq ⟨by decide, by decide⟩ (narZ _) dX6_isAssigned_8 (pP_i rfl)
set_option maxHeartbeats 4000000 in
set_option maxRecDepth 100000 in
theorem c_X6_isTrue (l : Launch) (k : KX) (M : Mem) (b : Nat) (tr : List Ent) (cf : Option Nat) (v : Nat) (hT : TrAt k M b tr cf) (hv : v < 32) : CM l yX6_isTrue cX6_isTrue 2 ((some .boolean)) { frames := 1, cells := 0, slots := 0, locals := 21 } k [.ref (ad k b), .int (nI v)] M (pP (.int (bI ((tT tr).testBit v))) M) := by
  refine CM.of (by decide) (Nat.le_of_ble_eq_true rfl) (fun C X hCl hCR rq => ?_)
  show V C k 2 (0, 0) M 0 [(0, .ref (ad k b)), (1, .int (nI v))] []
  obtain ⟨hN, hk, hc, o, lv, rs, F0, F1, F2, F3, ho, hv⟩ := id hT
  have hA := hk.A
  have hTT := hk.T
  have hBB := hk.B
  have hlen := hk.le
  have htL := tL_le tr
  refine v_aload_n X 0 dX6_isTrue_0 rfl ?_
  refine v_get X cls6 F0 (by omega) 5 (by decide) m_192 rfl rfl dX6_isTrue_1 ?_
  refine v_iload_n X 1 dX6_isTrue_4 rfl ?_
  refine v_callSN X hCl hCR (c_X7_contains l k M (tT tr) v (by omega) (by omega)) mo_X7_contains m_18 nw_31 m_20 m_21 (by decide) rfl rfl (Nat.le_of_ble_eq_true rfl) ⟨rfl, rfl⟩ ⟨by decide, by decide⟩ dX6_isTrue_5 (vP_in ?_)
  exact v_iret X rq ⟨by decide, by decide⟩ (narZ _) dX6_isTrue_8 (pP_i rfl)
set_option maxHeartbeats 4000000 in
set_option maxRecDepth 100000 in
theorem c_X6_reasonOf (l : Launch) (k : KX) (M : Mem) (b : Nat) (tr : List Ent) (cf : Option Nat) (v : Nat) (hT : TrAt k M b tr cf) (hv8 : v < 8) : CM l yX6_reasonOf cX6_reasonOf 2 ((some .int)) { frames := 2, cells := 0, slots := 0, locals := 42 } k [.ref (ad k b), .int (nI v)] M (pP (.int (oI (tRsn tr v))) M) := by
  refine CM.of (by decide) (Nat.le_of_ble_eq_true rfl) (fun C X hCl hCR rq => ?_)
  show V C k 2 (0, 0) M 0 [(0, .ref (ad k b)), (1, .int (nI v))] []
  obtain ⟨hN, hk, hc, o, lv, rs, F0, F1, F2, F3, ho, hv⟩ := id hT
  have hA := hk.A
  have hTT := hk.T
  have hBB := hk.B
  have hlen := hk.le
  have htL := tL_le tr
  refine v_iload_n X 1 dX6_reasonOf_0 rfl ?_
  refine v_callSN X hCl hCR (c_X7_isVariable l k M (nI v)) mo_X7_isVariable m_25 nw_29 m_29 m_21 (by decide) rfl rfl (Nat.le_of_ble_eq_true rfl) ⟨rfl, rfl⟩ ⟨by decide, by decide⟩ dX6_reasonOf_1 (vP_in ?_)
  refine v_ieqB X 24 dX6_reasonOf_4 (by decide) (fun c_1 => ?_) (fun c_1 => ?_)
  · exact absurd c_1 (by rw [inL_n (by omega) (by decide)]; simp; exact hv8)
  · refine v_aload_n X 0 dX6_reasonOf_7 rfl ?_
    refine v_iload_n X 1 dX6_reasonOf_8 rfl ?_
    refine v_callV X hCl hCR (c_X6_isAssigned l k M b tr cf v hT (by omega)) cls6 ⟨_, F0⟩ (by omega) mo_X6_isAssigned m_207 m_210 m_211 m_212 m_204 (by decide) rfl rfl (Nat.le_of_ble_eq_true rfl) ⟨rfl, rfl⟩ ⟨by decide, by decide⟩ dX6_reasonOf_9 (vP_in ?_)
    refine v_ieqB X 24 dX6_reasonOf_12 (by decide) (fun c_2 => ?_) (fun c_2 => ?_)
    · have hb := c_2
      refine v_bipush X (v := (-9)) (by decide) dX6_reasonOf_24 ?_
      exact v_iret X rq ⟨by decide, by decide⟩ rfl dX6_reasonOf_26 (pP_i (by rw [tRsn_not hb]; rfl))
    · have hb := c_2
      refine v_aload_n X 0 dX6_reasonOf_15 rfl ?_
      refine v_get X cls6 F0 (by omega) 2 (by decide) m_189 rfl rfl dX6_reasonOf_16 ?_
      refine v_iload_n X 1 dX6_reasonOf_19 rfl ?_
      refine v_iald X oI F3 (by omega) (by omega) (by decide) dX6_reasonOf_20 ?_
      refine v_goto X 26 dX6_reasonOf_21 (by decide) ?_
      exact v_iret X rq ⟨by decide, by decide⟩ rfl dX6_reasonOf_26 (pP_i (by rw [(hv v hv8 hb).2]))
set_option maxHeartbeats 4000000 in
set_option maxRecDepth 100000 in
theorem c_X6_literalAt (l : Launch) (k : KX) (M : Mem) (b : Nat) (tr : List Ent) (cf : Option Nat) (j : Nat) (hT : TrAt k M b tr cf) (hj : j < tr.length) : CM l yX6_literalAt cX6_literalAt 2 ((some .int)) { frames := 2, cells := 0, slots := 0, locals := 42 } k [.ref (ad k b), .int (nI j)] M (pP (.int (nI (2 * tOrd tr j + (if (tT tr).testBit (tOrd tr j) then 0 else 1)))) M) := by
  refine CM.of (by decide) (Nat.le_of_ble_eq_true rfl) (fun C X hCl hCR rq => ?_)
  show V C k 2 (0, 0) M 0 [(0, .ref (ad k b)), (1, .int (nI j))] []
  obtain ⟨hN, hk, hc, o, lv, rs, F0, F1, F2, F3, ho, hv⟩ := id hT
  have hA := hk.A
  have hTT := hk.T
  have hBB := hk.B
  have hlen := hk.le
  have htL := tL_le tr
  refine v_iload_n X 1 dX6_literalAt_0 rfl ?_
  refine v_iltN X (by omega) dX6_literalAt_1 ?_
  refine v_iload_n X 1 dX6_literalAt_4 rfl ?_
  refine v_aload_n X 0 dX6_literalAt_5 rfl ?_
  refine v_get X cls6 F0 (by omega) 3 (by decide) m_190 rfl rfl dX6_literalAt_6 ?_
  refine v_cltN X 15 (by omega) (by omega) dX6_literalAt_9 (by decide) (fun c_2 => ?_) (fun c_2 => ?_)
  · refine v_aload_n X 0 dX6_literalAt_15 rfl ?_
    refine v_get X cls6 F0 (by omega) 0 (by decide) m_187 rfl rfl dX6_literalAt_16 ?_
    refine v_iload_n X 1 dX6_literalAt_19 rfl ?_
    refine v_iald X nI F1 (by omega) (by omega) (by decide) dX6_literalAt_20 ?_
    obtain ⟨hq, _⟩ := tOrd_tb hk hj
    refine v_top (show (Value.int (nI (o j)) : Value) = .int (nI (tOrd tr j)) from congrArg _ (congrArg nI (ho j hj))) ?_
    refine v_aload_n X 0 dX6_literalAt_21 rfl ?_
    refine v_aload_n X 0 dX6_literalAt_22 rfl ?_
    refine v_get X cls6 F0 (by omega) 0 (by decide) m_187 rfl rfl dX6_literalAt_23 ?_
    refine v_iload_n X 1 dX6_literalAt_26 rfl ?_
    refine v_iald X nI F1 (by omega) (by omega) (by decide) dX6_literalAt_27 ?_
    refine v_top (show (Value.int (nI (o j)) : Value) = .int (nI (tOrd tr j)) from congrArg _ (congrArg nI (ho j hj))) ?_
    refine v_callV X hCl hCR (c_X6_isTrue l k M b tr cf (tOrd tr j) hT (by omega)) cls6 ⟨_, F0⟩ (by omega) mo_X6_isTrue m_232 m_234 m_235 m_236 m_204 (by decide) rfl rfl (Nat.le_of_ble_eq_true rfl) ⟨rfl, rfl⟩ ⟨by decide, by decide⟩ dX6_literalAt_28 (vP_in ?_)
    refine v_callSN X hCl hCR (c_X7_literalOf l k M (tOrd tr j) ((tT tr).testBit (tOrd tr j))) mo_X7_literalOf m_213 nw_32 m_215 m_21 (by decide) rfl rfl (Nat.le_of_ble_eq_true rfl) ⟨rfl, rfl⟩ ⟨by decide, by decide⟩ dX6_literalAt_31 (vP_in ?_)
    exact v_iret X rq ⟨by decide, by decide⟩ rfl dX6_literalAt_34 (pP_i rfl)
  · exact absurd c_2 (by omega)
set_option maxHeartbeats 4000000 in
set_option maxRecDepth 100000 in
theorem c_X6_falseClause (l : Launch) (k : KX) (M : Mem) (b : Nat) (tr : List Ent) (cf : Option Nat) (x : Nat) (hT : TrAt k M b tr cf) : CM l yX6_falseClause cX6_falseClause 2 ((some .int)) { frames := 1, cells := 0, slots := 0, locals := 21 } k [.ref (ad k b), .int (nI x)] M (pP (.int (nI (falseCl tr x))) M) := by
  refine CM.of (by decide) (Nat.le_of_ble_eq_true rfl) (fun C X hCl hCR rq => ?_)
  show V C k 2 (0, 0) M 0 [(0, .ref (ad k b)), (1, .int (nI x))] []
  obtain ⟨hN, hk, hc, o, lv, rs, F0, F1, F2, F3, ho, hv⟩ := id hT
  have hA := hk.A
  have hTT := hk.T
  have hBB := hk.B
  have hlen := hk.le
  have htL := tL_le tr
  refine v_iload_n X 1 dX6_falseClause_0 rfl ?_
  refine v_aload_n X 0 dX6_falseClause_1 rfl ?_
  refine v_get X cls6 F0 (by omega) 5 (by decide) m_192 rfl rfl dX6_falseClause_2 ?_
  refine v_iconst X (v := nI 4294967295) (by decide) dX6_falseClause_5 ?_
  refine v_xorN X dX6_falseClause_6 ?_
  refine v_andN X dX6_falseClause_7 ?_
  refine v_iload_n X 1 dX6_falseClause_8 rfl ?_
  refine v_aload_n X 0 dX6_falseClause_9 rfl ?_
  refine v_get X cls6 F0 (by omega) 5 (by decide) m_192 rfl rfl dX6_falseClause_10 ?_
  refine v_andN X dX6_falseClause_13 ?_
  refine v_callSN X hCl hCR (c_X7_clauseCode l k M (x &&& ((tT tr) ^^^ 4294967295)) (x &&& (tT tr))) mo_X7_clauseCode m_89 nw_34 m_107 m_21 (by decide) rfl rfl (Nat.le_of_ble_eq_true rfl) ⟨rfl, rfl⟩ ⟨by decide, by decide⟩ dX6_falseClause_14 (vP_in ?_)
  exact v_iret X rq ⟨by decide, by decide⟩ rfl dX6_falseClause_17 (pP_i rfl)
set_option maxHeartbeats 4000000 in
set_option maxRecDepth 100000 in
theorem c_X6_backjumpLevel (l : Launch) (k : KX) (M : Mem) (b : Nat) (tr : List Ent) (cf : Option Nat) (x : Nat) (hT : TrAt k M b tr cf) (hx : x < 256) : CM l yX6_backjumpLevel cX6_backjumpLevel 4 ((some .int)) { frames := 1, cells := 0, slots := 0, locals := 21 } k [.ref (ad k b), .int (nI x)] M (pP (.int (nI (bjLev tr x))) M) := by
  refine CM.of (by decide) (Nat.le_of_ble_eq_true rfl) (fun C X hCl hCR rq => ?_)
  show V C k 4 (0, 0) M 0 [(0, .ref (ad k b)), (1, .int (nI x))] []
  obtain ⟨hN, hk, hc, o, lv, rs, F0, F1, F2, F3, ho, hv⟩ := id hT
  have hA := hk.A
  have hTT := hk.T
  have hBB := hk.B
  have hlen := hk.le
  have htL := tL_le tr
  have L : ∀ (fu : Nat) (q w : Nat), 8 - q < fu → (q ≤ 8) → (bjF (fun v => (x &&& tB tr).testBit v) (tLev tr) q = w) → V C k 4 (0, 0) M 4 [(0, .ref (ad k b)), (1, .int (nI x)), (2, .int (nI w)), (3, .int (nI q))] [] := by
    intro fu
    induction fu with
    | zero => intro q w hfu; exact absurd hfu (Nat.not_lt_zero _)
    | succ fu ih =>
      intro q w hfu hq hw 
      refine v_iload_n X 3 dX6_backjumpLevel_4 rfl ?_
      refine v_bipush X (v := nI 8) (by decide) dX6_backjumpLevel_5 ?_
      refine v_cgeN X 40 (by omega) (by omega) dX6_backjumpLevel_7 (by decide) (fun c_1 => ?_) (fun c_1 => ?_)
      · refine v_iload_n X 2 dX6_backjumpLevel_40 rfl ?_
        exact v_iret X rq ⟨by decide, by decide⟩ rfl dX6_backjumpLevel_41 (pP_i (by unfold bjLev; rw [show q = 8 by omega] at hw; rw [hw]))
      · refine v_iload_n X 1 dX6_backjumpLevel_10 rfl ?_
        refine v_aload_n X 0 dX6_backjumpLevel_11 rfl ?_
        refine v_get X cls6 F0 (by omega) 7 (by decide) m_194 rfl rfl dX6_backjumpLevel_12 ?_
        refine v_andN X dX6_backjumpLevel_15 ?_
        refine v_iload_n X 3 dX6_backjumpLevel_16 rfl ?_
        refine v_callSN X hCl hCR (c_X7_contains l k M (x &&& (tB tr)) q (and_lt (by omega)) (by omega)) mo_X7_contains m_18 nw_31 m_20 m_21 (by decide) rfl rfl (Nat.le_of_ble_eq_true rfl) ⟨rfl, rfl⟩ ⟨by decide, by decide⟩ dX6_backjumpLevel_17 (vP_in ?_)
        refine v_ieqB X 34 dX6_backjumpLevel_20 (by decide) (fun c_2 => ?_) (fun c_2 => ?_)
        · have hb := c_2
          refine v_iinc X (v := nI (q + 1)) 3 [(3, .int (nI (q + 1))), (0, .ref (ad k b)), (1, .int (nI x)), (2, .int (nI w))] dX6_backjumpLevel_34 rfl (nI_1 _) (by decide) rfl ?_
          refine v_goto X 4 dX6_backjumpLevel_37 (by decide) ?_
          refine v_lv [1, 2, 3, 0] rfl ?_
          exact ih (q + 1) (w) (by omega) (by omega) (by rw [bj_f hb, hw])
        · have hb := c_2
          refine v_iload_n X 2 dX6_backjumpLevel_23 rfl ?_
          refine v_aload_n X 0 dX6_backjumpLevel_24 rfl ?_
          refine v_get X cls6 F0 (by omega) 1 (by decide) m_188 rfl rfl dX6_backjumpLevel_25 ?_
          refine v_iload_n X 3 dX6_backjumpLevel_28 rfl ?_
          refine v_iald X nI F2 (by omega) (by omega) (by decide) dX6_backjumpLevel_29 ?_
          have hb2 := hb
          rw [Nat.testBit_and, Bool.and_eq_true] at hb2
          refine v_top (show (Value.int (nI (lv q)) : Value) = .int (nI (tLev tr q)) from congrArg _ (congrArg nI (hv q (by omega) (tB_sub hb2.2)).1)) ?_
          refine v_maxN X hCR m_244 m_183 m_180 m_184 (by decide) (Nat.le_of_ble_eq_true rfl) ⟨by decide, by decide⟩ (by have := bj_le hk (p := fun v => (x &&& tB tr).testBit v) q; omega) (by have := tLev_le hk q; omega) dX6_backjumpLevel_30 ?_
          refine v_istore_n X [(2, .int (nI (max w (tLev tr q)))), (0, .ref (ad k b)), (1, .int (nI x)), (3, .int (nI q))] dX6_backjumpLevel_33 (by decide) rfl ?_
          refine v_iinc X (v := nI (q + 1)) 3 [(3, .int (nI (q + 1))), (2, .int (nI (max w (tLev tr q)))), (0, .ref (ad k b)), (1, .int (nI x))] dX6_backjumpLevel_34 rfl (nI_1 _) (by decide) rfl ?_
          refine v_goto X 4 dX6_backjumpLevel_37 (by decide) ?_
          refine v_lv [2, 3, 1, 0] rfl ?_
          exact ih (q + 1) (max w (tLev tr q)) (by omega) (by omega) (by rw [bj_t hb, hw])
  refine v_iconst X (v := nI 0) (by decide) dX6_backjumpLevel_0 ?_
  refine v_istore_n X [(2, .int (nI 0)), (0, .ref (ad k b)), (1, .int (nI x))] dX6_backjumpLevel_1 (by decide) rfl ?_
  refine v_iconst X (v := nI 0) (by decide) dX6_backjumpLevel_2 ?_
  refine v_istore_n X [(3, .int (nI 0)), (2, .int (nI 0)), (0, .ref (ad k b)), (1, .int (nI x))] dX6_backjumpLevel_3 (by decide) rfl ?_
  refine v_lv [2, 3, 1, 0] rfl ?_
  exact L 9 0 0 (by omega) (by omega) rfl
set_option maxHeartbeats 4000000 in
set_option maxRecDepth 100000 in
theorem c_X6_learnedVariables (l : Launch) (k : KX) (M : Mem) (b : Nat) (tr : List Ent) (c : Nat) (b2 : Nat) (cs : List Nat) (hT : TrAt k M b tr (some c)) (hF : FmAt k M b2 cs) (ho2 : csOK cs) : CM l yX6_learnedVariables cX6_learnedVariables 7 ((some .int)) { frames := 3, cells := 0, slots := 0, locals := 63 } k [.ref (ad k b), .ref (ad k b2)] M (pP (.int (nI (lrnVars cs tr c))) M) := by
  refine CM.of (by decide) (Nat.le_of_ble_eq_true rfl) (fun C X hCl hCR rq => ?_)
  show V C k 7 (0, 0) M 0 [(0, .ref (ad k b)), (1, .ref (ad k b2))] []
  obtain ⟨hN, hk, hc, o, lv, rs, F0, F1, F2, F3, ho, hv⟩ := id hT
  have hA := hk.A
  have hTT := hk.T
  have hBB := hk.B
  have hlen := hk.le
  have htL := tL_le tr
  have hok := cAt_ok ho2
  have hcc := hc c rfl
  have hN2 := hF.1
  have L : ∀ (fu : Nat) (suf pr : List Ent) (x : Nat), suf.length < fu → (tr = pr ++ suf) → (x < 256) → (ana cs (mdiff (tA tr) (tB tr)) suf x = lrnVars cs tr c) → V C k 7 (0, 0) M 32 [(0, .ref (ad k b)), (1, .ref (ad k b2)), (2, .int (nI (mdiff (tA tr) (tB tr)))), (3, .int (nI x)), (4, .int ((pm suf.length)))] [] := by
    intro fu
    induction fu with
    | zero => intro suf pr x hfu; exact absurd hfu (Nat.not_lt_zero _)
    | succ fu ih =>
      intro suf pr x hfu hpr hxx hx 
      refine v_iload X 4 dX6_learnedVariables_32 rfl ?_
      match suf, hfu, hpr, hx with
      | [], hfu, hpr, hx =>
        refine v_if_lt X 98 dX6_learnedVariables_34 (by decide) (fun _ => ?_) (fun h => absurd pm_0 h)
        refine v_iload_n X 3 dX6_learnedVariables_98 rfl ?_
        exact v_iret X rq ⟨by decide, by decide⟩ rfl dX6_learnedVariables_99 (pP_i (by rw [← hx]; rfl))
      | e :: t, hfu, hpr, hx =>
        have hpm : pm (e :: t).length = nI t.length := pm_s t.length
        rw [hpm]
        have hk2 : trOK (pr ++ e :: t) := by rw [← hpr]; exact hk
        have hk3 := hk2.app
        have htl := hk3.2.2.2.le
        have ht8 : t.length < 8 := by have := hk3.le; simp at this; omega
        have hoe : tOrd tr t.length = e.1 := by rw [hpr, tOrd_app _ pr (by simp)]; simp [tOrd]
        have htr : t.length < tr.length := by rw [hpr]; simp; omega
        have hre : tRsn tr e.1 = e.2.2 := by rw [hpr, tRsn_app (by rw [← hpr]; exact hk) (by rw [tA_tb]; simp)]; simp [tRsn]
        refine v_iltN X (by omega) dX6_learnedVariables_34 ?_
        refine v_iload_n X 3 dX6_learnedVariables_37 rfl ?_
        refine v_iload_n X 2 dX6_learnedVariables_38 rfl ?_
        refine v_andN X dX6_learnedVariables_39 ?_
        refine v_callS X hCl hCR (c_J6_bitCount_0f7a4 l k M (x &&& (mdiff (tA tr) (tB tr))) (and_ltl hxx)) mo_J6_bitCount_0f7a4 m_54 m_238 m_60 m_61 (by decide) rfl rfl (Nat.le_of_ble_eq_true rfl) ⟨rfl, rfl⟩ ⟨by decide, by decide⟩ dX6_learnedVariables_40 (vP_in ?_)
        refine v_iconst X (v := nI 1) (by decide) dX6_learnedVariables_43 ?_
        refine v_cleN X 98 (by have := pc8_le (x &&& mdiff (tA tr) (tB tr)); omega) (by decide) dX6_learnedVariables_44 (by decide) (fun c_2 => ?_) (fun c_2 => ?_)
        · have c44 := c_2
          refine v_iload_n X 3 dX6_learnedVariables_98 rfl ?_
          exact v_iret X rq ⟨by decide, by decide⟩ rfl dX6_learnedVariables_99 (pP_i (by rw [← hx, ana_stop c44]))
        · have c44 := c_2
          refine v_aload_n X 0 dX6_learnedVariables_47 rfl ?_
          refine v_get X cls6 F0 (by omega) 0 (by decide) m_187 rfl rfl dX6_learnedVariables_48 ?_
          refine v_iload X 4 dX6_learnedVariables_51 rfl ?_
          refine v_iald X nI F1 (by omega) (by omega) (by decide) dX6_learnedVariables_53 ?_
          refine v_top (show (Value.int (nI (o t.length)) : Value) = .int (nI e.1) from congrArg _ (congrArg nI ((ho _ htr).trans hoe))) ?_
          refine v_istore X [(5, .int (nI e.1)), (0, .ref (ad k b)), (1, .ref (ad k b2)), (2, .int (nI (mdiff (tA tr) (tB tr)))), (3, .int (nI x)), (4, .int (nI t.length))] dX6_learnedVariables_54 (by decide) rfl ?_
          refine v_iload_n X 4 dX6_learnedVariables_56 rfl ?_
          refine v_iload X 0 dX6_learnedVariables_57 rfl ?_
          refine v_callSN X hCl hCR (c_X7_contains l k M x e.1 (by omega) (by have := hk3.1; omega)) mo_X7_contains m_18 nw_31 m_20 m_21 (by decide) rfl rfl (Nat.le_of_ble_eq_true rfl) ⟨rfl, rfl⟩ ⟨by decide, by decide⟩ dX6_learnedVariables_59 (vP_in ?_)
          refine v_ieqB X 92 dX6_learnedVariables_62 (by decide) (fun c_3 => ?_) (fun c_3 => ?_)
          · have hb := c_3
            refine v_iinc X (v := pm t.length) 5 [(4, .int ((pm t.length))), (5, .int (nI e.1)), (0, .ref (ad k b)), (1, .ref (ad k b2)), (2, .int (nI (mdiff (tA tr) (tB tr)))), (3, .int (nI x))] dX6_learnedVariables_92 rfl (pm_dec _) (by decide) rfl ?_
            refine v_goto X 32 dX6_learnedVariables_95 (by decide) ?_
            refine v_lv [2, 3, 4, 5, 0] rfl ?_
            exact ih t (pr ++ [e]) (x) (by simp at hfu; omega) (by rw [hpr, List.append_assoc]; rfl) (hxx) (by rw [← hx, ana_miss c44 hb])
          · have hb := c_3
            refine v_aload_n X 2 dX6_learnedVariables_65 rfl ?_
            refine v_aload_n X 1 dX6_learnedVariables_66 rfl ?_
            refine v_iload X 0 dX6_learnedVariables_67 rfl ?_
            refine v_callV X hCl hCR (c_X6_reasonOf l k M b tr (some c) e.1 hT (by have := hk3.1; omega)) cls6 ⟨_, F0⟩ (by omega) mo_X6_reasonOf m_237 m_239 m_240 m_241 m_204 (by decide) rfl rfl (Nat.le_of_ble_eq_true rfl) ⟨rfl, rfl⟩ ⟨by decide, by decide⟩ dX6_learnedVariables_69 (vP_in ?_)
            refine v_top (show (Value.int (oI (tRsn tr e.1)) : Value) = .int (oI e.2.2) from congrArg _ (congrArg oI hre)) ?_
            refine v_callV X hCl hCR (c_X1_codeAtO l k M b2 cs e.2.2 hF (fun n hn => by have := hk3.2.2.1 n hn; omega)) cls1 hF.obj (by omega) mo_X1_codeAt m_10 m_200 m_32 m_33 m_15 (by decide) rfl rfl (Nat.le_of_ble_eq_true rfl) ⟨rfl, rfl⟩ ⟨by decide, by decide⟩ dX6_learnedVariables_72 (vP_in ?_)
            refine v_callSN X hCl hCR (c_X7_variablesOf l k M (cAt cs (e.2.2.getD 24)) (by have := hok (e.2.2.getD 24); omega)) mo_X7_variablesOf m_53 nw_26 m_63 m_21 (by decide) rfl rfl (Nat.le_of_ble_eq_true rfl) ⟨rfl, rfl⟩ ⟨by decide, by decide⟩ dX6_learnedVariables_75 (vP_in ?_)
            refine v_istore X [(6, .int (nI (xVars (cAt cs (e.2.2.getD 24))))), (5, .int (nI e.1)), (0, .ref (ad k b)), (1, .ref (ad k b2)), (2, .int (nI (mdiff (tA tr) (tB tr)))), (3, .int (nI x)), (4, .int (nI t.length))] dX6_learnedVariables_78 (by decide) rfl ?_
            refine v_iload_n X 5 dX6_learnedVariables_80 rfl ?_
            refine v_iload X 0 dX6_learnedVariables_81 rfl ?_
            refine v_orN X dX6_learnedVariables_83 ?_
            refine v_iconst X (v := nI 1) (by decide) dX6_learnedVariables_84 ?_
            refine v_iload X 1 dX6_learnedVariables_85 rfl ?_
            refine v_shlN X (by have := hk3.1; omega) dX6_learnedVariables_87 ?_
            refine v_iconst X (v := nI 4294967295) (by decide) dX6_learnedVariables_88 ?_
            refine v_xorN X dX6_learnedVariables_89 ?_
            refine v_andN X dX6_learnedVariables_90 ?_
            refine v_top (show (Value.int (nI ((x ||| (xVars (cAt cs (e.2.2.getD 24)))) &&& ((1 <<< e.1) ^^^ 4294967295))) : Value) = .int (nI (mdiff (x ||| xVars (cAt cs (e.2.2.getD 24))) (1 <<< e.1))) from congrArg _ (rfl)) ?_
            refine v_istore_n X [(3, .int (nI (mdiff (x ||| xVars (cAt cs (e.2.2.getD 24))) (1 <<< e.1)))), (6, .int (nI (xVars (cAt cs (e.2.2.getD 24))))), (5, .int (nI e.1)), (0, .ref (ad k b)), (1, .ref (ad k b2)), (2, .int (nI (mdiff (tA tr) (tB tr)))), (4, .int (nI t.length))] dX6_learnedVariables_91 (by decide) rfl ?_
            refine v_iinc X (v := pm t.length) 6 [(4, .int ((pm t.length))), (3, .int (nI (mdiff (x ||| xVars (cAt cs (e.2.2.getD 24))) (1 <<< e.1)))), (6, .int (nI (xVars (cAt cs (e.2.2.getD 24))))), (5, .int (nI e.1)), (0, .ref (ad k b)), (1, .ref (ad k b2)), (2, .int (nI (mdiff (tA tr) (tB tr))))] dX6_learnedVariables_92 rfl (pm_dec _) (by decide) rfl ?_
            refine v_goto X 32 dX6_learnedVariables_95 (by decide) ?_
            refine v_lv [4, 5, 6, 1, 0] rfl ?_
            exact ih t (pr ++ [e]) (mdiff (x ||| xVars (cAt cs (e.2.2.getD 24))) (1 <<< e.1)) (by simp at hfu; omega) (by rw [hpr, List.append_assoc]; rfl) (mdiff_lt (or_lt256 hxx (xVars_lt _))) (by rw [← hx, ana_hit c44 hb])
  refine v_aload_n X 0 dX6_learnedVariables_0 rfl ?_
  refine v_get X cls6 F0 (by omega) 4 (by decide) m_191 rfl rfl dX6_learnedVariables_1 ?_
  refine v_aload_n X 0 dX6_learnedVariables_4 rfl ?_
  refine v_get X cls6 F0 (by omega) 7 (by decide) m_194 rfl rfl dX6_learnedVariables_5 ?_
  refine v_iconst X (v := nI 4294967295) (by decide) dX6_learnedVariables_8 ?_
  refine v_xorN X dX6_learnedVariables_9 ?_
  refine v_andN X dX6_learnedVariables_10 ?_
  refine v_top (show (Value.int (nI ((tA tr) &&& ((tB tr) ^^^ 4294967295))) : Value) = .int (nI (mdiff (tA tr) (tB tr))) from congrArg _ (rfl)) ?_
  refine v_istore_n X [(2, .int (nI (mdiff (tA tr) (tB tr)))), (0, .ref (ad k b)), (1, .ref (ad k b2))] dX6_learnedVariables_11 (by decide) rfl ?_
  refine v_aload_n X 2 dX6_learnedVariables_12 rfl ?_
  refine v_aload_n X 1 dX6_learnedVariables_13 rfl ?_
  refine v_get X cls6 F0 (by omega) 8 (by decide) m_195 rfl rfl dX6_learnedVariables_14 ?_
  refine v_top (show (Value.int (oI (some c)) : Value) = .int (nI c) from congrArg _ (rfl)) ?_
  refine v_callV X hCl hCR (c_X1_codeAtN l k M b2 cs c hF (by omega)) cls1 hF.obj (by omega) mo_X1_codeAt m_10 m_200 m_32 m_33 m_15 (by decide) rfl rfl (Nat.le_of_ble_eq_true rfl) ⟨rfl, rfl⟩ ⟨by decide, by decide⟩ dX6_learnedVariables_17 (vP_in ?_)
  refine v_callSN X hCl hCR (c_X7_variablesOf l k M (cAt cs c) (by have := hok c; omega)) mo_X7_variablesOf m_53 nw_26 m_63 m_21 (by decide) rfl rfl (Nat.le_of_ble_eq_true rfl) ⟨rfl, rfl⟩ ⟨by decide, by decide⟩ dX6_learnedVariables_20 (vP_in ?_)
  refine v_istore_n X [(3, .int (nI (xVars (cAt cs c)))), (2, .int (nI (mdiff (tA tr) (tB tr)))), (0, .ref (ad k b)), (1, .ref (ad k b2))] dX6_learnedVariables_23 (by decide) rfl ?_
  refine v_aload_n X 2 dX6_learnedVariables_24 rfl ?_
  refine v_get X cls6 F0 (by omega) 3 (by decide) m_190 rfl rfl dX6_learnedVariables_25 ?_
  refine v_iconst X (v := nI 1) (by decide) dX6_learnedVariables_28 ?_
  refine v_isub X dX6_learnedVariables_29 ?_
  refine v_top (show (Value.int (nI tr.length - nI 1) : Value) = .int ((pm tr.length)) from congrArg _ (rfl)) ?_
  refine v_istore X [(4, .int ((pm tr.length))), (3, .int (nI (xVars (cAt cs c)))), (2, .int (nI (mdiff (tA tr) (tB tr)))), (0, .ref (ad k b)), (1, .ref (ad k b2))] dX6_learnedVariables_30 (by decide) rfl ?_
  refine v_lv [3, 4, 2, 1, 0] rfl ?_
  exact L (tr.length + 1) tr [] (xVars (cAt cs c)) (by omega) rfl (xVars_lt _) rfl
